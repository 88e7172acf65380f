section
-- ===== PART A: goes FIRST, ahead of the names: the tables' words, and 'selects' of the private methods out of them =====
/-- a private method of a class that the tables say can be made, by its rows of tables_1 -/
def lw_okq (q : MethodName × Nat) : Prop := (q.1.cls ≠ "java/lang/invoke/MethodHandle" ∧ q.1.cls ≠ "java/lang/invoke/VarHandle") ∧ Cond.instantiable q.1.cls q.2 ∈ tables_1 ∧ Cond.privateMethod q.1 ∈ tables_1 ∧ Cond.instanceMethod q.1 ∈ tables_1
theorem lw_p0 : lw_okq (⟨"java/lang/Throwable", "fillInStackTrace", "(I)Ljava/lang/Throwable;"⟩, 6) := ⟨⟨by decide +kernel, by decide +kernel⟩, List.mem_of_getElem? (i := 278) (by decide +kernel), List.mem_of_getElem? (i := 276) (by decide +kernel), List.mem_of_getElem? (i := 277) (by decide +kernel)⟩
theorem lw_p1 : lw_okq (⟨"AbsenceRows", "isEnough", "(IIIII)Z"⟩, 9) := ⟨⟨by decide +kernel, by decide +kernel⟩, List.mem_of_getElem? (i := 19) (by decide +kernel), List.mem_of_getElem? (i := 359) (by decide +kernel), List.mem_of_getElem? (i := 360) (by decide +kernel)⟩
theorem lw_p2 : lw_okq (⟨"AbsenceRows", "partsOfYear", "(IIIII)I"⟩, 9) := ⟨⟨by decide +kernel, by decide +kernel⟩, List.mem_of_getElem? (i := 19) (by decide +kernel), List.mem_of_getElem? (i := 363) (by decide +kernel), List.mem_of_getElem? (i := 364) (by decide +kernel)⟩
theorem lw_p3 : lw_okq (⟨"AbsenceRows", "halfDaysOfHoliday", "(II)I"⟩, 9) := ⟨⟨by decide +kernel, by decide +kernel⟩, List.mem_of_getElem? (i := 19) (by decide +kernel), List.mem_of_getElem? (i := 367) (by decide +kernel), List.mem_of_getElem? (i := 368) (by decide +kernel)⟩
theorem lw_p4 : lw_okq (⟨"AbsenceRows", "halfDaysOf", "(I)I"⟩, 9) := ⟨⟨by decide +kernel, by decide +kernel⟩, List.mem_of_getElem? (i := 19) (by decide +kernel), List.mem_of_getElem? (i := 378) (by decide +kernel), List.mem_of_getElem? (i := 379) (by decide +kernel)⟩
theorem lw_p5 : lw_okq (⟨"AbsenceRows", "partsCarried", "(II)I"⟩, 9) := ⟨⟨by decide +kernel, by decide +kernel⟩, List.mem_of_getElem? (i := 19) (by decide +kernel), List.mem_of_getElem? (i := 406) (by decide +kernel), List.mem_of_getElem? (i := 407) (by decide +kernel)⟩
theorem lw_p6 : lw_okq (⟨"AbsenceRows", "isEnoughFor", "(IIII)Z"⟩, 9) := ⟨⟨by decide +kernel, by decide +kernel⟩, List.mem_of_getElem? (i := 19) (by decide +kernel), List.mem_of_getElem? (i := 520) (by decide +kernel), List.mem_of_getElem? (i := 521) (by decide +kernel)⟩
theorem lw_p7 : lw_okq (⟨"AbsenceRows", "isAbove", "(II)Z"⟩, 9) := ⟨⟨by decide +kernel, by decide +kernel⟩, List.mem_of_getElem? (i := 19) (by decide +kernel), List.mem_of_getElem? (i := 547) (by decide +kernel), List.mem_of_getElem? (i := 548) (by decide +kernel)⟩
theorem lw_p8 : lw_okq (⟨"AbsenceRows", "firstDayLeftShort", "(I)I"⟩, 9) := ⟨⟨by decide +kernel, by decide +kernel⟩, List.mem_of_getElem? (i := 19) (by decide +kernel), List.mem_of_getElem? (i := 560) (by decide +kernel), List.mem_of_getElem? (i := 561) (by decide +kernel)⟩
theorem lw_p9 : lw_okq (⟨"AbsenceRows", "crewLeftShort", "(II)I"⟩, 9) := ⟨⟨by decide +kernel, by decide +kernel⟩, List.mem_of_getElem? (i := 19) (by decide +kernel), List.mem_of_getElem? (i := 566) (by decide +kernel), List.mem_of_getElem? (i := 567) (by decide +kernel)⟩
theorem lw_p10 : lw_okq (⟨"AbsenceRows", "atWorkOn", "(I)I"⟩, 9) := ⟨⟨by decide +kernel, by decide +kernel⟩, List.mem_of_getElem? (i := 19) (by decide +kernel), List.mem_of_getElem? (i := 570) (by decide +kernel), List.mem_of_getElem? (i := 571) (by decide +kernel)⟩
theorem lw_p11 : lw_okq (⟨"AbsenceRows", "partsLeft", "(II)I"⟩, 9) := ⟨⟨by decide +kernel, by decide +kernel⟩, List.mem_of_getElem? (i := 19) (by decide +kernel), List.mem_of_getElem? (i := 623) (by decide +kernel), List.mem_of_getElem? (i := 624) (by decide +kernel)⟩
theorem lw_p12 : lw_okq (⟨"AbsenceRows", "askNext", "(I)V"⟩, 9) := ⟨⟨by decide +kernel, by decide +kernel⟩, List.mem_of_getElem? (i := 19) (by decide +kernel), List.mem_of_getElem? (i := 690) (by decide +kernel), List.mem_of_getElem? (i := 691) (by decide +kernel)⟩
theorem lw_p13 : lw_okq (⟨"AbsenceRows", "nextToAsk", "(I)I"⟩, 9) := ⟨⟨by decide +kernel, by decide +kernel⟩, List.mem_of_getElem? (i := 19) (by decide +kernel), List.mem_of_getElem? (i := 694) (by decide +kernel), List.mem_of_getElem? (i := 695) (by decide +kernel)⟩
theorem lw_p14 : lw_okq (⟨"AbsenceRows", "goOnWithoutAnswer", "()I"⟩, 9) := ⟨⟨by decide +kernel, by decide +kernel⟩, List.mem_of_getElem? (i := 19) (by decide +kernel), List.mem_of_getElem? (i := 761) (by decide +kernel), List.mem_of_getElem? (i := 762) (by decide +kernel)⟩
theorem lw_p15 : lw_okq (⟨"AbsenceRowsModel", "goes", "(IZZZZ)Z"⟩, 37) := ⟨⟨by decide +kernel, by decide +kernel⟩, List.mem_of_getElem? (i := 765) (by decide +kernel), List.mem_of_getElem? (i := 897) (by decide +kernel), List.mem_of_getElem? (i := 898) (by decide +kernel)⟩
def lw_privs_1 : List (MethodName × Nat) := [(⟨"java/lang/Throwable", "fillInStackTrace", "(I)Ljava/lang/Throwable;"⟩, 6), (⟨"AbsenceRows", "isEnough", "(IIIII)Z"⟩, 9), (⟨"AbsenceRows", "partsOfYear", "(IIIII)I"⟩, 9), (⟨"AbsenceRows", "halfDaysOfHoliday", "(II)I"⟩, 9), (⟨"AbsenceRows", "halfDaysOf", "(I)I"⟩, 9), (⟨"AbsenceRows", "partsCarried", "(II)I"⟩, 9), (⟨"AbsenceRows", "isEnoughFor", "(IIII)Z"⟩, 9), (⟨"AbsenceRows", "isAbove", "(II)Z"⟩, 9), (⟨"AbsenceRows", "firstDayLeftShort", "(I)I"⟩, 9), (⟨"AbsenceRows", "crewLeftShort", "(II)I"⟩, 9), (⟨"AbsenceRows", "atWorkOn", "(I)I"⟩, 9), (⟨"AbsenceRows", "partsLeft", "(II)I"⟩, 9), (⟨"AbsenceRows", "askNext", "(I)V"⟩, 9), (⟨"AbsenceRows", "nextToAsk", "(I)I"⟩, 9), (⟨"AbsenceRows", "goOnWithoutAnswer", "()I"⟩, 9), (⟨"AbsenceRowsModel", "goes", "(IZZZZ)Z"⟩, 37)]
theorem lw_r1 : ∀ q ∈ lw_privs_1, lw_okq q := List.forall_mem_cons.mpr ⟨lw_p0, List.forall_mem_cons.mpr ⟨lw_p1, List.forall_mem_cons.mpr ⟨lw_p2, List.forall_mem_cons.mpr ⟨lw_p3, List.forall_mem_cons.mpr ⟨lw_p4, List.forall_mem_cons.mpr ⟨lw_p5, List.forall_mem_cons.mpr ⟨lw_p6, List.forall_mem_cons.mpr ⟨lw_p7, List.forall_mem_cons.mpr ⟨lw_p8, List.forall_mem_cons.mpr ⟨lw_p9, List.forall_mem_cons.mpr ⟨lw_p10, List.forall_mem_cons.mpr ⟨lw_p11, List.forall_mem_cons.mpr ⟨lw_p12, List.forall_mem_cons.mpr ⟨lw_p13, List.forall_mem_cons.mpr ⟨lw_p14, List.forall_mem_cons.mpr ⟨lw_p15, fun _ h => absurd h List.not_mem_nil⟩⟩⟩⟩⟩⟩⟩⟩⟩⟩⟩⟩⟩⟩⟩⟩
theorem lw_p16 : lw_okq (⟨"AbsenceRowsModel", "isPerson", "(I)Z"⟩, 37) := ⟨⟨by decide +kernel, by decide +kernel⟩, List.mem_of_getElem? (i := 765) (by decide +kernel), List.mem_of_getElem? (i := 905) (by decide +kernel), List.mem_of_getElem? (i := 906) (by decide +kernel)⟩
theorem lw_p17 : lw_okq (⟨"AbsenceRowsModel", "isEnough", "(I)Z"⟩, 37) := ⟨⟨by decide +kernel, by decide +kernel⟩, List.mem_of_getElem? (i := 765) (by decide +kernel), List.mem_of_getElem? (i := 909) (by decide +kernel), List.mem_of_getElem? (i := 910) (by decide +kernel)⟩
theorem lw_p18 : lw_okq (⟨"AbsenceRowsModel", "restOf", "(II)J"⟩, 37) := ⟨⟨by decide +kernel, by decide +kernel⟩, List.mem_of_getElem? (i := 765) (by decide +kernel), List.mem_of_getElem? (i := 913) (by decide +kernel), List.mem_of_getElem? (i := 914) (by decide +kernel)⟩
theorem lw_p19 : lw_okq (⟨"AbsenceRowsModel", "rest", "(II)J"⟩, 37) := ⟨⟨by decide +kernel, by decide +kernel⟩, List.mem_of_getElem? (i := 765) (by decide +kernel), List.mem_of_getElem? (i := 917) (by decide +kernel), List.mem_of_getElem? (i := 918) (by decide +kernel)⟩
theorem lw_p20 : lw_okq (⟨"AbsenceRowsModel", "takes", "(I)I"⟩, 37) := ⟨⟨by decide +kernel, by decide +kernel⟩, List.mem_of_getElem? (i := 765) (by decide +kernel), List.mem_of_getElem? (i := 922) (by decide +kernel), List.mem_of_getElem? (i := 923) (by decide +kernel)⟩
theorem lw_p21 : lw_okq (⟨"AbsenceRowsModel", "isWork", "(I)Z"⟩, 37) := ⟨⟨by decide +kernel, by decide +kernel⟩, List.mem_of_getElem? (i := 765) (by decide +kernel), List.mem_of_getElem? (i := 926) (by decide +kernel), List.mem_of_getElem? (i := 927) (by decide +kernel)⟩
theorem lw_p22 : lw_okq (⟨"AbsenceRowsModel", "isHalf", "(II)Z"⟩, 37) := ⟨⟨by decide +kernel, by decide +kernel⟩, List.mem_of_getElem? (i := 765) (by decide +kernel), List.mem_of_getElem? (i := 930) (by decide +kernel), List.mem_of_getElem? (i := 931) (by decide +kernel)⟩
theorem lw_p23 : lw_okq (⟨"AbsenceRowsModel", "whole", "(I)I"⟩, 37) := ⟨⟨by decide +kernel, by decide +kernel⟩, List.mem_of_getElem? (i := 765) (by decide +kernel), List.mem_of_getElem? (i := 935) (by decide +kernel), List.mem_of_getElem? (i := 936) (by decide +kernel)⟩
theorem lw_p24 : lw_okq (⟨"AbsenceRowsModel", "isCrew", "(I)Z"⟩, 37) := ⟨⟨by decide +kernel, by decide +kernel⟩, List.mem_of_getElem? (i := 765) (by decide +kernel), List.mem_of_getElem? (i := 959) (by decide +kernel), List.mem_of_getElem? (i := 960) (by decide +kernel)⟩
theorem lw_p25 : lw_okq (⟨"AbsenceRowsModel", "isAbsent", "(II)Z"⟩, 37) := ⟨⟨by decide +kernel, by decide +kernel⟩, List.mem_of_getElem? (i := 765) (by decide +kernel), List.mem_of_getElem? (i := 967) (by decide +kernel), List.mem_of_getElem? (i := 968) (by decide +kernel)⟩
theorem lw_p26 : lw_okq (⟨"AbsenceRowsModel", "count", "(II)I"⟩, 37) := ⟨⟨by decide +kernel, by decide +kernel⟩, List.mem_of_getElem? (i := 765) (by decide +kernel), List.mem_of_getElem? (i := 975) (by decide +kernel), List.mem_of_getElem? (i := 976) (by decide +kernel)⟩
theorem lw_p27 : lw_okq (⟨"AbsenceRowsModel", "isPresent", "(III)Z"⟩, 37) := ⟨⟨by decide +kernel, by decide +kernel⟩, List.mem_of_getElem? (i := 765) (by decide +kernel), List.mem_of_getElem? (i := 979) (by decide +kernel), List.mem_of_getElem? (i := 980) (by decide +kernel)⟩
theorem lw_p28 : lw_okq (⟨"AbsenceRowsModel", "comes", "(III)Z"⟩, 37) := ⟨⟨by decide +kernel, by decide +kernel⟩, List.mem_of_getElem? (i := 765) (by decide +kernel), List.mem_of_getElem? (i := 983) (by decide +kernel), List.mem_of_getElem? (i := 984) (by decide +kernel)⟩
theorem lw_p29 : lw_okq (⟨"AbsenceRowsModel", "put", "(IIIII)V"⟩, 37) := ⟨⟨by decide +kernel, by decide +kernel⟩, List.mem_of_getElem? (i := 765) (by decide +kernel), List.mem_of_getElem? (i := 991) (by decide +kernel), List.mem_of_getElem? (i := 992) (by decide +kernel)⟩
theorem lw_p30 : lw_okq (⟨"AbsenceRowsModel", "isAsk", "(I)Z"⟩, 37) := ⟨⟨by decide +kernel, by decide +kernel⟩, List.mem_of_getElem? (i := 765) (by decide +kernel), List.mem_of_getElem? (i := 999) (by decide +kernel), List.mem_of_getElem? (i := 1000) (by decide +kernel)⟩
theorem lw_p31 : lw_okq (⟨"AbsenceRowsModel", "shortage", "(I)I"⟩, 37) := ⟨⟨by decide +kernel, by decide +kernel⟩, List.mem_of_getElem? (i := 765) (by decide +kernel), List.mem_of_getElem? (i := 1003) (by decide +kernel), List.mem_of_getElem? (i := 1004) (by decide +kernel)⟩
def lw_privs_2 : List (MethodName × Nat) := [(⟨"AbsenceRowsModel", "isPerson", "(I)Z"⟩, 37), (⟨"AbsenceRowsModel", "isEnough", "(I)Z"⟩, 37), (⟨"AbsenceRowsModel", "restOf", "(II)J"⟩, 37), (⟨"AbsenceRowsModel", "rest", "(II)J"⟩, 37), (⟨"AbsenceRowsModel", "takes", "(I)I"⟩, 37), (⟨"AbsenceRowsModel", "isWork", "(I)Z"⟩, 37), (⟨"AbsenceRowsModel", "isHalf", "(II)Z"⟩, 37), (⟨"AbsenceRowsModel", "whole", "(I)I"⟩, 37), (⟨"AbsenceRowsModel", "isCrew", "(I)Z"⟩, 37), (⟨"AbsenceRowsModel", "isAbsent", "(II)Z"⟩, 37), (⟨"AbsenceRowsModel", "count", "(II)I"⟩, 37), (⟨"AbsenceRowsModel", "isPresent", "(III)Z"⟩, 37), (⟨"AbsenceRowsModel", "comes", "(III)Z"⟩, 37), (⟨"AbsenceRowsModel", "put", "(IIIII)V"⟩, 37), (⟨"AbsenceRowsModel", "isAsk", "(I)Z"⟩, 37), (⟨"AbsenceRowsModel", "shortage", "(I)I"⟩, 37)]
theorem lw_r2 : ∀ q ∈ lw_privs_2, lw_okq q := List.forall_mem_cons.mpr ⟨lw_p16, List.forall_mem_cons.mpr ⟨lw_p17, List.forall_mem_cons.mpr ⟨lw_p18, List.forall_mem_cons.mpr ⟨lw_p19, List.forall_mem_cons.mpr ⟨lw_p20, List.forall_mem_cons.mpr ⟨lw_p21, List.forall_mem_cons.mpr ⟨lw_p22, List.forall_mem_cons.mpr ⟨lw_p23, List.forall_mem_cons.mpr ⟨lw_p24, List.forall_mem_cons.mpr ⟨lw_p25, List.forall_mem_cons.mpr ⟨lw_p26, List.forall_mem_cons.mpr ⟨lw_p27, List.forall_mem_cons.mpr ⟨lw_p28, List.forall_mem_cons.mpr ⟨lw_p29, List.forall_mem_cons.mpr ⟨lw_p30, List.forall_mem_cons.mpr ⟨lw_p31, fun _ h => absurd h List.not_mem_nil⟩⟩⟩⟩⟩⟩⟩⟩⟩⟩⟩⟩⟩⟩⟩⟩
theorem lw_p32 : lw_okq (⟨"AbsenceRowsModel", "asksNext", "(I)V"⟩, 37) := ⟨⟨by decide +kernel, by decide +kernel⟩, List.mem_of_getElem? (i := 765) (by decide +kernel), List.mem_of_getElem? (i := 1035) (by decide +kernel), List.mem_of_getElem? (i := 1036) (by decide +kernel)⟩
theorem lw_p33 : lw_okq (⟨"AbsenceRowsModel", "hasSkills", "(III)Z"⟩, 37) := ⟨⟨by decide +kernel, by decide +kernel⟩, List.mem_of_getElem? (i := 765) (by decide +kernel), List.mem_of_getElem? (i := 1039) (by decide +kernel), List.mem_of_getElem? (i := 1040) (by decide +kernel)⟩
theorem lw_p34 : lw_okq (⟨"AbsenceRowsModel", "isFree", "(II)Z"⟩, 37) := ⟨⟨by decide +kernel, by decide +kernel⟩, List.mem_of_getElem? (i := 765) (by decide +kernel), List.mem_of_getElem? (i := 1043) (by decide +kernel), List.mem_of_getElem? (i := 1044) (by decide +kernel)⟩
theorem lw_p35 : lw_okq (⟨"AbsenceRowsModel", "isCall", "(I)Z"⟩, 37) := ⟨⟨by decide +kernel, by decide +kernel⟩, List.mem_of_getElem? (i := 765) (by decide +kernel), List.mem_of_getElem? (i := 1051) (by decide +kernel), List.mem_of_getElem? (i := 1052) (by decide +kernel)⟩
def lw_privs_3 : List (MethodName × Nat) := [(⟨"AbsenceRowsModel", "asksNext", "(I)V"⟩, 37), (⟨"AbsenceRowsModel", "hasSkills", "(III)Z"⟩, 37), (⟨"AbsenceRowsModel", "isFree", "(II)Z"⟩, 37), (⟨"AbsenceRowsModel", "isCall", "(I)Z"⟩, 37)]
theorem lw_r3 : ∀ q ∈ lw_privs_3, lw_okq q := List.forall_mem_cons.mpr ⟨lw_p32, List.forall_mem_cons.mpr ⟨lw_p33, List.forall_mem_cons.mpr ⟨lw_p34, List.forall_mem_cons.mpr ⟨lw_p35, fun _ h => absurd h List.not_mem_nil⟩⟩⟩⟩
def lw_privs : List (MethodName × Nat) := lw_privs_1 ++ (lw_privs_2 ++ (lw_privs_3))
def lw_tbl : List Cond := k2_sels lw_privs ++ tables_1
theorem lw_privs_ok : ∀ q ∈ lw_privs, lw_okq q := by
  show ∀ q ∈ lw_privs_1 ++ (lw_privs_2 ++ (lw_privs_3)), lw_okq q
  exact List.forall_mem_append.mpr ⟨lw_r1, List.forall_mem_append.mpr ⟨lw_r2, lw_r3⟩⟩
end
section
/-! ===== BEGIN words of one list among another's, by their places ===== -/
theorem goodIn_r {big : List Cond} (ws : List Cond) (ps : List Nat) (hp : ws = ps.filterMap (fun i => big[i]?)) (h : ws.all goodWord = true) : GoodIn big ws := by
  intro w hw
  have h1 := List.all_eq_true.mp h w hw
  rw [hp] at hw
  obtain ⟨i, -, hi⟩ := List.mem_filterMap.mp hw
  have hm : w ∈ big := by first | exact List.mem_of_getElem? hi | exact List.getElem?_mem hi
  exact ⟨hm, good_of_word h1⟩
theorem goodIn_app {big a b : List Cond} (ha : GoodIn big a) (hb : GoodIn big b) : GoodIn big (a ++ b) := fun w h => (List.mem_append.mp h).elim (ha w) (hb w)
theorem goodIn_ca {big a b : List Cond} {c : Cond} (ha : GoodIn big (c :: a)) (hb : GoodIn big b) : GoodIn big (c :: (a ++ b)) := fun w h => (List.mem_cons.mp h).elim (fun e => ha w (List.mem_cons.mpr (Or.inl e))) (fun h => (List.mem_append.mp h).elim (fun h => ha w (List.mem_cons.mpr (Or.inr h))) (hb w))
theorem goodIn_sub {big ws : List Cond} (hm : ∀ w ∈ ws, w ∈ big) (h : ws.all goodWord = true) : GoodIn big ws := fun w hw => ⟨hm w hw, good_of_word (List.all_eq_true.mp h w hw)⟩
/-! ===== END ===== -/

/-! ===== BEGIN exceptions that leave a method, and their catching by the caller (launches without stack traces) ===== -/
section VXA
/-- where a method has thrown q: the class by its name, the cell, what was written, the world -/
def vx_T (XC : String → State → State → Prop) (st : State) (q : Addr) (t : State) (mc ms : Nat) (free : Addr → Prop) : Prop :=
  ∃ (E : String) (ce : Cell) (L : List Loc), XC E st t ∧ t.heap[q]? = some ce ∧ ce.vm = .none ∧ st.vm.findClass E = some ce.cls ∧ st.WarmedH t.vm ∧ st.sameButNew ({ t with vm := st.vm } : State) L mc ms ∧ ∀ z ∈ L, free z.base
def vx_Q (Qc : Array Value → State → Outcome → State → Prop) (XC : String → State → State → Prop) (mc ms : Nat) (free : Addr → Prop) : Array Value → State → Outcome → State → Prop := fun a st o t =>
  (Qc a st o t ∧ ∃ L, FrameEnd st o t L mc ms ∧ ∀ q ∈ L, free q.base) ∨ ∃ q, o = .threw q ∧ vx_T XC st q t mc ms free
/-- a callee that returns or throws -/
def vx_Met (l : Launch) (y : MethodName) (ws : List Cond) (rm : Room) (Pc : Array Value → State → Prop) (Qc : Array Value → State → Outcome → State → Prop) (XC : String → State → State → Prop) (mc ms : Nat) (free : Addr → Prop) : Prop :=
  MetFree l y (headSpec ws rm) Pc (fun _ _ _ _ _ => True) (vx_Q Qc XC mc ms free)
def vx_Post (XC : String → State → State → Prop) (mc ms : Nat) (free : Addr → Prop) : Pt → Array Value → Addr → Pt → Prop := fun A a q B =>
  ∃ (g : JFrame) (mk : MethodId) (t : State) (L : List Loc) (E : String) (ce : Cell), B.U.heap = t.heap ∧ B.U.vm = t.vm ∧ XC E (A.U.calling g mk a) t ∧ t.heap[q]? = some ce ∧ ce.vm = .none ∧ A.U.vm.findClass E = some ce.cls ∧ B.locs = A.locs ++ L ∧ (∀ z ∈ L, free z.base) ∧ B.cells = A.cells + mc ∧ B.slots = A.slots + ms
def vx_Back (l : Launch) (R : Room) (p : Program) (e : Env) (below : List Frame) (s : State) (sargs : Array Value) (y : MethodName) (len W9 : Nat)
    (Pre : Pt → Array Value → Prop) (Post : Pt → Array Value → Option Value → Pt → Prop) (PostX : Pt → Array Value → Addr → Pt → Prop) : Prop :=
  ∀ (m : MethodId) (meth : Method) (c : Code) (A : Pt) (g : JFrame) (ig : Instr) (mk : MethodId) (a : Array Value),
    Stand p l e R s m sargs below meth c A.U A.locs A.cells A.slots → g.method = m → g.locals.size = c.maxLocals → decode c.code g.pc = .ok (ig, len) →
    2 * g.monitorRoom + (g.stack.map fun v => v.category).sum ≤ W9 → A.U.methodNamed? y = some mk → Pre A a →
    (∃ (v : Option Value) (B : Pt), Stand p l e R s m sargs below meth c B.U B.locs B.cells B.slots ∧ Post A a v B ∧
      Steps p.tables e below (doInvoke e (A.U.setTop g) [] mk a).1 (B.U.setTop { g with pc := g.pc + len, stack := v.toList ++ g.stack })) ∨
    (∃ (q : Addr) (B : Pt), Stand p l e R s m sargs below meth c B.U B.locs B.cells B.slots ∧ PostX A a q B ∧
      Steps p.tables e below (doInvoke e (A.U.setTop g) [] mk a).1 ((B.U.setTop g).pushFrame (.throwing q)))
section Payer
variable {l : Launch} {R : Room} {p : Program} {e : Env} {below : List Frame} {s : State} {sargs : Array Value} {y : MethodName} {len W9 : Nat}
theorem vx_back {ws : List Cond} {rm : Room} {Pc : Array Value → State → Prop} {Qc : Array Value → State → Outcome → State → Prop} {XC : String → State → State → Prop} {mc ms : Nat} {free : Addr → Prop} {bytes : ByteArray} {maxL : Nat} {ret : Option FieldType}
    (hM : vx_Met l y ws rm Pc Qc XC mc ms free) (hblind : FrameBlind Pc) (hrc : rm.cells = mc) (hrs : rm.slots = ms)
    (hframes : rm.frames + 1 ≤ R.frames) (hlocals : W9 + (maxL + 11) + rm.locals ≤ R.locals)
    (hws : ∀ w ∈ ws, ∀ a' U, s.WarmedH U.vm → w.before a' U = true) (hcode : Cond.code y bytes maxL ret ∈ ws) (hinit : ∀ a' U, s.WarmedH U.vm → (Cond.initialized y.cls).before a' U = true) :
    vx_Back l R p e below s sargs y len W9 (PreOf R mc ms Pc) (PostOf Qc mc ms free) (vx_Post XC mc ms free) := by
  intro m meth c A g ig mk a X hg hsize hdg hW hn hp
  have h1 : (headSpec ws rm).pre.before a A.U = true := atoms_intro fun w hw => hws w hw _ _ X.warmed
  have h2 : (Cond.code y bytes maxL ret).before a A.U = true := hws _ hcode _ _ X.warmed
  have h3 : (Cond.initialized y.cls).before a A.U = true := hinit _ _ X.warmed
  have h4 : A.cells + (headSpec ws rm).room.cells ≤ R.cells := by rw [show (headSpec ws rm).room.cells = mc from hrc]; exact hp.1
  have h5 : A.slots + (headSpec ws rm).room.slots ≤ R.slots := by rw [show (headSpec ws rm).room.slots = ms from hrs]; exact hp.2.1
  have hPc : Pc a (A.U.calling g mk a) := hblind _ _ _ _ hp.2.2
  obtain ⟨U, Ls, c0, s0⟩ := A
  dsimp only [Pt.U, Pt.locs, Pt.cells, Pt.slots] at h1 h2 h3 h4 h5 X hn hPc ⊢
  obtain ⟨methY, cY, hmY, hcY, -, hlY, -, -, -, -⟩ := Cond.code_spec hn h2
  obtain ⟨kY, hkY, -⟩ := className_of_methodNamed hn
  have hinitY : kY.init = .initialized := Cond.initialized_spec (findClass_of_methodNamed hn) hkY h3
  have h : At U g.method c below := by rw [hg]; exact X.here
  have hlocals9 : W9 + (maxL + 11) + (headSpec ws rm).room.locals ≤ R.locals := hlocals
  have happ : (headSpec ws rm).appliesLoose y e.platform (U.calling g mk a) = true :=
    Spec.appliesLoose_calling (g := g) h hdg hn hkY hinitY
      (X.room_calling (g := g) (R' := (headSpec ws rm).room) hsize hmY hcY hframes (by rw [hlY]; omega) h4 h5) h1
  obtain ⟨mid, hmid⟩ := h.above
  have hfr : (U.setTop g).frames = (.java g :: mid) ++ below := by rw [State.frames_setTop' g h.top, hmid]; rfl
  obtain ⟨o, s₂, hsteps, -, hend, hq⟩ := Steps.callFree hM p X.admits X.cas X.clock (acts := []) hfr happ hPc trivial
  have hq' : vx_Q Qc XC mc ms free a (U.calling g mk a) o s₂ := hq
  rw [State.frames_setTop' g h.top] at hend
  obtain ⟨g₀, hg0⟩ := Option.isSome_iff_exists.mp h.top
  obtain ⟨r, hr⟩ := State.topJava?_eq_some.mp hg0
  have hr' : (({ U with heap := s₂.heap, slotsUsed := s₂.slotsUsed } : State).setVm s₂.vm).frames = .java g₀ :: r := hr
  rcases hq' with ⟨hqc, L, hfe, hL⟩ | ⟨q, rfl, E, ce, L, hx, hce, hcv, hcl, hW₂, hsm, hL⟩
  · obtain ⟨⟨v, rfl⟩, hW₂, e2, q2, q3, q4, q5, q6⟩ := id hfe
    have e3 : s₂ = ({ (U.calling g mk a).setFrames s₂.frames with heap := s₂.heap, slotsUsed := s₂.slotsUsed } : State).setVm s₂.vm := by
      have : s₂ = ({ s₂ with vm := (U.calling g mk a).vm } : State).setVm s₂.vm := rfl
      rw [e2] at this
      exact this
    obtain ⟨c₂, i₂, len₂, hc₂, hd₂, hf₂⟩ := hend
    have hW' : U.WarmedH s₂.vm := hW₂
    have hcc : c₂ = c := by
      have h1 : s₂.code? g.method = U.code? g.method := by
        rw [State.code?_eq, State.code?_eq, hW'.alike.method?]
      exact Option.some.inj (hc₂.symm.trans (h1.trans h.code))
    subst hcc
    have hlen : len₂ = len := by rw [hdg] at hd₂; cases hd₂; rfl
    subst hlen
    have hs₂ : s₂ = (({ U with heap := s₂.heap, slotsUsed := s₂.slotsUsed } : State).setVm s₂.vm).setTop { g with pc := g.pc + len₂, stack := v.toList ++ g.stack } := by
      refine e3.trans ?_
      rw [hf₂, State.calling_eq h.top, State.setFrames_setFrames, State.setTop_of_frames _ hr', hr]
      rfl
    have hsame : U.sameButNew ({ U with heap := s₂.heap, slotsUsed := s₂.slotsUsed } : State) L mc ms := by
      refine ⟨?_, q2, q3, q4, q5, q6⟩
      obtain ⟨t, ht, -⟩ := State.frames_cons hr
      show ({ U with heap := s₂.heap, slotsUsed := s₂.slotsUsed } : State) = { U.setFrames U.frames with heap := s₂.heap, slotsUsed := s₂.slotsUsed }
      rw [State.setFrames_self ht]
    subst hg
    refine Or.inl ⟨v, ⟨(({ U with heap := s₂.heap, slotsUsed := s₂.slotsUsed } : State).setVm s₂.vm), Ls ++ L, c0 + mc, s0 + ms⟩,
      ⟨X.admits, X.cas, X.clock, X.frames, X.room, X.hears, X.method, X.code, (X.here.setHeapUsed s₂.heap s₂.slotsUsed).setVm hW'.alike, X.tail, State.WarmedH.trans X.warmed hW', X.limits, X.bytes, X.same.trans (hsame.setVm s.vm)⟩,
      ⟨g, mk, s₂, L, rfl, rfl, hqc, rfl, hL, rfl, rfl⟩, ?_⟩
    show Steps p.tables e below _ ((({ U with heap := s₂.heap, slotsUsed := s₂.slotsUsed } : State).setVm s₂.vm).setTop { g with pc := g.pc + len₂, stack := v.toList ++ g.stack })
    rw [← hs₂]
    exact hsteps
  · obtain ⟨e2, q2, q3, q4, q5, q6⟩ := id hsm
    have e3 : s₂ = ({ (U.calling g mk a).setFrames s₂.frames with heap := s₂.heap, slotsUsed := s₂.slotsUsed } : State).setVm s₂.vm := by
      have : s₂ = ({ s₂ with vm := (U.calling g mk a).vm } : State).setVm s₂.vm := rfl
      rw [e2] at this
      exact this
    have hf₂ : s₂.frames = .throwing q :: .java g :: U.frames.tail := hend
    have hW' : U.WarmedH s₂.vm := hW₂
    have hs₂ : s₂ = ((({ U with heap := s₂.heap, slotsUsed := s₂.slotsUsed } : State).setVm s₂.vm).setTop g).pushFrame (.throwing q) := by
      refine e3.trans ?_
      rw [hf₂, State.calling_eq h.top, State.setFrames_setFrames, State.pushFrame, State.frames_setTop _ hr', State.setTop_of_frames _ hr', State.setFrames_setFrames, hr]
      rfl
    have hsame : U.sameButNew ({ U with heap := s₂.heap, slotsUsed := s₂.slotsUsed } : State) L mc ms := by
      refine ⟨?_, q2, q3, q4, q5, q6⟩
      obtain ⟨t, ht, -⟩ := State.frames_cons hr
      show ({ U with heap := s₂.heap, slotsUsed := s₂.slotsUsed } : State) = { U.setFrames U.frames with heap := s₂.heap, slotsUsed := s₂.slotsUsed }
      rw [State.setFrames_self ht]
    subst hg
    refine Or.inr ⟨q, ⟨(({ U with heap := s₂.heap, slotsUsed := s₂.slotsUsed } : State).setVm s₂.vm), Ls ++ L, c0 + mc, s0 + ms⟩,
      ⟨X.admits, X.cas, X.clock, X.frames, X.room, X.hears, X.method, X.code, (X.here.setHeapUsed s₂.heap s₂.slotsUsed).setVm hW'.alike, X.tail, State.WarmedH.trans X.warmed hW', X.limits, X.bytes, X.same.trans (hsame.setVm s.vm)⟩,
      ⟨g, mk, s₂, L, E, ce, rfl, rfl, hx, hce, hcv, hcl, rfl, hL, rfl, rfl⟩, ?_⟩
    show Steps p.tables e below _ (((({ U with heap := s₂.heap, slotsUsed := s₂.slotsUsed } : State).setVm s₂.vm).setTop g).pushFrame (.throwing q))
    rw [← hs₂]
    exact hsteps
end Payer
section Calls
variable {p : Program} {l : Launch} {e : Env} {R : Room} {s : State} {m : MethodId} {args : Array Value} {below : List Frame} {meth : Method} {c : Code} {T : State} {locs : List Loc} {cells slots : Nat}
theorem vx_callV (X : Stand p l e R s m args below meth c T locs cells slots) (hexec : p.tables.exec = Jvm.exec) {own C : String} {index : Nat} {y : MethodName} {bytes : ByteArray} {maxL : Nat} {ret : Option FieldType}
    (hown : s.vm.findClass own = some m.cls) (hlink : (Cond.methodLink own index y).before args s = true) (hinst : (Cond.instanceMethod y).before args s = true) (hsel : (Cond.selects C y y).before args s = true)
    (hcode : (Cond.code y bytes maxL ret).before args s = true) (hy : y.cls ≠ "java/lang/invoke/MethodHandle" ∧ y.cls ≠ "java/lang/invoke/VarHandle")
    {W9 : Nat} {Pre : Pt → Array Value → Prop} {Post : Pt → Array Value → Option Value → Pt → Prop} {PostX : Pt → Array Value → Addr → Pt → Prop} (hK : vx_Back l R p e below s args y 3 W9 Pre Post PostX)
    {b : Addr} {cellB : Cell} (hcell : T.heap[b]? = some cellB) (hobj : cellB.vm.isStatics = false) (hcls : s.vm.findClass C = some cellB.cls)
    {g : JFrame} (hg : g.method = m) (hsize : g.locals.size = c.maxLocals) {argsL rest : List Value} (hlen : ∀ sig, parseMethodDescriptor y.desc = some sig → argsL.length = sig.parameters.length)
    (hstack : g.stack = argsL.reverse ++ .ref b :: rest) (hW : 2 * g.monitorRoom + (rest.map fun v => v.category).sum ≤ W9) (hdg : decode c.code g.pc = .ok (.invokevirtual index, 3))
    (hpre : ∀ vm₁, s.WarmedH vm₁ → Pre ⟨T.setVm vm₁, locs, cells, slots⟩ (Value.ref b :: argsL).toArray) :
    (∃ (v : Option Value) (vm₁ : Vm) (B : Pt), s.WarmedH vm₁ ∧ Stand p l e R s m args below meth c B.U B.locs B.cells B.slots ∧ Post ⟨T.setVm vm₁, locs, cells, slots⟩ (Value.ref b :: argsL).toArray v B ∧
      ∀ target, Steps p.tables e below (B.U.setTop { g with pc := g.pc + 3, stack := v.toList ++ rest }) target → Steps p.tables e below (T.setTop g) target) ∨
    (∃ (q : Addr) (vm₁ : Vm) (B : Pt), s.WarmedH vm₁ ∧ Stand p l e R s m args below meth c B.U B.locs B.cells B.slots ∧ PostX ⟨T.setVm vm₁, locs, cells, slots⟩ (Value.ref b :: argsL).toArray q B ∧
      Steps p.tables e below (T.setTop g) ((B.U.setTop { g with stack := rest }).pushFrame (.throwing q))) := by
  obtain ⟨mk, methM, hnamed, hmethM, hstM, habM⟩ := Cond.instanceMethod_spec hinst
  obtain ⟨methM', cM, hmethM', -, -, -, -, -, -, hsigM⟩ := Cond.code_spec hnamed hcode
  cases hmethM.symm.trans hmethM'
  obtain ⟨c2, r2, m2, q1, q2, q3, q4, kP, hkP, hkPi⟩ := Cond.selects_spec hsel
  cases hcls.symm.trans q1
  cases (State.methodFound?_of_named hnamed hy).symm.trans q2
  cases hnamed.symm.trans q3
  have hselP : selectMethod e.platform s.vm cellB.cls mk = .method mk := by rw [Launch.admits_selectMethod X.admits]; exact q4
  obtain ⟨vm₁, X₁, hstep₁⟩ := X.invokevirtual hexec hown hlink hnamed hmethM hstM hkP hkPi hy (a := b) (cell := cellB) hcell
    (fun z h => by rw [h] at hobj; cases hobj) hselP hmethM habM hkP hkPi (g := g) hg (argsL := argsL) (rest := rest) (hlen _ hsigM) hstack hdg
  rcases hK m meth c ⟨T.setVm vm₁, locs, cells, slots⟩ { g with stack := rest } (.invokevirtual index) mk (Value.ref b :: argsL).toArray X₁ hg hsize hdg hW (X₁.named hnamed) (hpre vm₁ X₁.warmed) with ⟨v, B, X', hpost, hsteps⟩ | ⟨q, B, X', hpost, hsteps⟩
  · exact Or.inl ⟨v, vm₁, B, X₁.warmed, X', hpost, fun target h => hstep₁ _ fun acts => by rw [doInvoke_state]; exact hsteps.trans h⟩
  · exact Or.inr ⟨q, vm₁, B, X₁.warmed, X', hpost, hstep₁ _ fun acts => by rw [doInvoke_state]; exact hsteps⟩
theorem vx_callS (X : Stand p l e R s m args below meth c T locs cells slots) (hexec : p.tables.exec = Jvm.exec) {own : String} {index : Nat} {y : MethodName} {bytes : ByteArray} {maxL : Nat} {ret : Option FieldType}
    (hown : s.vm.findClass own = some m.cls) (hlink : (Cond.methodLink own index y).before args s = true) (hstat : (Cond.static y).before args s = true) (hinit : (Cond.initialized y.cls).before args s = true)
    (hcode : (Cond.code y bytes maxL ret).before args s = true) (hy : y.cls ≠ "java/lang/invoke/MethodHandle" ∧ y.cls ≠ "java/lang/invoke/VarHandle")
    {W9 : Nat} {Pre : Pt → Array Value → Prop} {Post : Pt → Array Value → Option Value → Pt → Prop} {PostX : Pt → Array Value → Addr → Pt → Prop} (hK : vx_Back l R p e below s args y 3 W9 Pre Post PostX)
    {g : JFrame} (hg : g.method = m) (hsize : g.locals.size = c.maxLocals) {argsL rest : List Value} (hlen : ∀ sig, parseMethodDescriptor y.desc = some sig → argsL.length = sig.parameters.length)
    (hstack : g.stack = argsL.reverse ++ rest) (hW : 2 * g.monitorRoom + (rest.map fun v => v.category).sum ≤ W9) (hdg : decode c.code g.pc = .ok (.invokestatic index, 3))
    (hpre : ∀ vm₁, s.WarmedH vm₁ → Pre ⟨T.setVm vm₁, locs, cells, slots⟩ argsL.toArray) :
    (∃ (v : Option Value) (vm₁ : Vm) (B : Pt), s.WarmedH vm₁ ∧ Stand p l e R s m args below meth c B.U B.locs B.cells B.slots ∧ Post ⟨T.setVm vm₁, locs, cells, slots⟩ argsL.toArray v B ∧
      ∀ target, Steps p.tables e below (B.U.setTop { g with pc := g.pc + 3, stack := v.toList ++ rest }) target → Steps p.tables e below (T.setTop g) target) ∨
    (∃ (q : Addr) (vm₁ : Vm) (B : Pt), s.WarmedH vm₁ ∧ Stand p l e R s m args below meth c B.U B.locs B.cells B.slots ∧ PostX ⟨T.setVm vm₁, locs, cells, slots⟩ argsL.toArray q B ∧
      Steps p.tables e below (T.setTop g) ((B.U.setTop { g with stack := rest }).pushFrame (.throwing q))) := by
  obtain ⟨mk, hnamed⟩ := Cond.code_named hcode
  obtain ⟨methM, cM, hmethM, -, -, -, -, -, -, hsigM⟩ := Cond.code_spec hnamed hcode
  have hstatic : methM.isStatic = true := Cond.static_spec hnamed hmethM hstat
  obtain ⟨kP, hkP, -⟩ := className_of_methodNamed hnamed
  have hinitP : kP.init = .initialized := Cond.initialized_spec (findClass_of_methodNamed hnamed) hkP hinit
  obtain ⟨vm₁, X₁, hstep₁⟩ := X.invokestatic hexec hown hlink hnamed hmethM hstatic hkP hinitP hy (g := g) hg (argsL := argsL) (rest := rest) (hlen _ hsigM) hstack hdg
  rcases hK m meth c ⟨T.setVm vm₁, locs, cells, slots⟩ { g with stack := rest } (.invokestatic index) mk argsL.toArray X₁ hg hsize hdg hW (X₁.named hnamed) (hpre vm₁ X₁.warmed) with ⟨v, B, X', hpost, hsteps⟩ | ⟨q, B, X', hpost, hsteps⟩
  · exact Or.inl ⟨v, vm₁, B, X₁.warmed, X', hpost, fun target h => hstep₁ _ fun acts => by rw [doInvoke_state]; exact hsteps.trans h⟩
  · exact Or.inr ⟨q, vm₁, B, X₁.warmed, X', hpost, hstep₁ _ fun acts => by rw [doInvoke_state]; exact hsteps⟩
end Calls
theorem vx_cls {s : State} {T : State} {vm₁ : Vm} {E : String} {k : ClassId} (hW : s.WarmedH vm₁) (h : (T.setVm vm₁).vm.findClass E = some k) : s.vm.findClass E = some k := by
  have h1 : vm₁.findClass E = some k := h
  rw [hW.alike.findClass] at h1
  exact h1
/-- the method's frame g, with q thrown over it -/
def vx_W (p : Program) (l : Launch) (e : Env) (R : Room) (s : State) (m : MethodId) (args : Array Value) (below : List Frame) (meth : Method) (c : Code) (H : Heap) (locs : List Loc) (cells slots : Nat) (Q : State → Prop) (g : JFrame) (q : Addr) : Prop :=
  ∀ T : State, T.heap = H → Stand p l e R s m args below meth c T locs cells slots → ∃ t, Steps p.tables e below ((T.setTop g).pushFrame (.throwing q)) t ∧ Q t
def vx_Run (p : Program) (l : Launch) (e : Env) (R : Room) (s : State) (m : MethodId) (args : Array Value) (below : List Frame) (meth : Method) (c : Code) (H : Heap) (locs : List Loc) (cells slots mc ms : Nat) (g : JFrame) (rest : List Value) (Qa : State → Outcome → State → Prop) (XC : String → State → State → Prop) (free : Addr → Prop) : Prop :=
  ∀ T : State, T.heap = H → Stand p l e R s m args below meth c T locs cells slots →
    (∃ (v : Option Value) (st₀ t T' : State) (L : List Loc), st₀.heap = H ∧ Stand p l e R s m args below meth c T' (locs ++ L) (cells + mc) (slots + ms) ∧ (∀ q ∈ L, free q.base) ∧ T'.heap = t.heap ∧ T'.vm = t.vm ∧ Qa st₀ (.returned v) t ∧
      Goes p e below T g T' { g with pc := g.pc + 3, stack := v.toList ++ rest }) ∨
    (∃ (q : Addr) (st₀ t T' : State) (L : List Loc) (E : String) (ce : Cell), st₀.heap = H ∧ Stand p l e R s m args below meth c T' (locs ++ L) (cells + mc) (slots + ms) ∧ (∀ z ∈ L, free z.base) ∧ T'.heap = t.heap ∧ T'.vm = t.vm ∧ XC E st₀ t ∧ t.heap[q]? = some ce ∧ ce.vm = .none ∧ s.vm.findClass E = some ce.cls ∧
      Steps p.tables e below (T.setTop g) ((T'.setTop { g with stack := rest }).pushFrame (.throwing q)))
def vx_X {S : Type} (px : S → Prop) (B : String → S → State → Prop) (A : Nat → Prop) : String → State → State → Prop := fun E st t => ∃ u : S, px u ∧ B E u t ∧ va_F A st t
section Runs
variable {p : Program} {l : Launch} {e : Env} {R : Room} {s : State} {m : MethodId} {args : Array Value} {below : List Frame} {meth : Method} {c : Code} {H : Heap} {locs : List Loc} {cells slots : Nat}
variable {y : MethodName} {bytes cc : ByteArray} {maxL nL mc ms n index : Nat} {ret : Option FieldType} {ws : List Cond} {rm : Room} {Pc : Array Value → State → Prop} {Qc : Array Value → State → Outcome → State → Prop} {XC : String → State → State → Prop} {free : Addr → Prop} {Ts : List Cond} {own C : String} {b : Addr} {As rest : List Value} {g : JFrame}
theorem vx_callBack (cb : CallB R s args own index y bytes maxL ret ws rm mc ms n) (hM : vx_Met l y ws rm Pc Qc XC mc ms free) (hbl : FrameBlind Pc) : vx_Back l R p e below s args y 3 8 (PreOf R mc ms Pc) (PostOf Qc mc ms free) (vx_Post XC mc ms free) := by
  obtain ⟨hrc, hrs, hfr, hlo, hws, hcw, -, hini, -⟩ := cb
  exact vx_back (bytes := bytes) (maxL := maxL) (ret := ret) hM hbl hrc hrs hfr hlo hws hcw (fun a' U hW => word_at hW (Or.inl (by first | rfl | simp [Cond.onTables, Cond.keeps, Cond.steady])) hini)
theorem vx_runV (S : CallFix p m c cc nL s args Ts own) (hM : vx_Met l y ws rm Pc Qc XC mc ms free) (cw : CallW R s args own C index y bytes maxL ret ws rm mc ms n) (hp : PreV s H C b Pc As)
    (hg : g.method = m) (hn : As.length = n) (hsize : g.locals.size = nL) (hstack : g.stack = As.reverse ++ .ref b :: rest) (hW : 2 * g.monitorRoom + (rest.map fun v => v.category).sum ≤ 8) (hdg : decode cc g.pc = .ok (.invokevirtual index, 3)) (hf : cells + mc ≤ R.cells ∧ slots + ms ≤ R.slots) :
    vx_Run p l e R s m args below meth c H locs cells slots mc ms g rest (Qc (Value.ref b :: As).toArray) XC free := by
  have hK : vx_Back l R p e below s args y 3 8 (PreOf R mc ms Pc) (PostOf Qc mc ms free) (vx_Post XC mc ms free) := vx_callBack cw.1 hM hp.1
  obtain ⟨⟨-, -, -, -, -, -, hcode, -, hy, hlen, hl⟩, hin, hse⟩ := cw
  obtain ⟨hx, hb, hml, ho, -⟩ := S
  obtain ⟨-, ⟨cellB, hcB, hoB, hclB⟩, hPc⟩ := hp
  intro T hT X
  rcases vx_callV X hx (C := C) (bytes := bytes) (maxL := maxL) (ret := ret) ho hl hin hse hcode hy hK (by rw [hT]; exact hcB) hoB hclB hg (hsize.trans hml.symm) (argsL := As) (rest := rest) (fun sig h => hn.trans (hlen sig h)) hstack hW (by rw [hb]; exact hdg)
    (fun vm₁ hW₁ => ⟨hf.1, hf.2, hPc (T.setVm vm₁) hT hW₁⟩) with ⟨v, vm₁, ⟨U', l2, c2, s2⟩, hW₁, X', ⟨g', mk, t, L, e1, e2, hq, h1, hL, h2, h3⟩, st⟩ | ⟨q, vm₁, ⟨U', l2, c2, s2⟩, hW₁, X', ⟨g', mk, t, L, E, ce, e1, e2, hq, hce, hcv, hcl, h1, hL, h2, h3⟩, st⟩
  · dsimp only [Pt.U, Pt.locs, Pt.cells, Pt.slots] at X' e1 e2 h1 h2 h3 st
    subst h1; subst h2; subst h3
    exact Or.inl ⟨v, (T.setVm vm₁).calling g' mk (Value.ref b :: As).toArray, t, U', L, hT, X', hL, e1, e2, hq, st⟩
  · dsimp only [Pt.U, Pt.locs, Pt.cells, Pt.slots] at X' e1 e2 h1 h2 h3 st hcl
    subst h1; subst h2; subst h3
    exact Or.inr ⟨q, (T.setVm vm₁).calling g' mk (Value.ref b :: As).toArray, t, U', L, E, ce, hT, X', hL, e1, e2, hq, hce, hcv, vx_cls hW₁ hcl, st⟩
theorem vx_runS (S : CallFix p m c cc nL s args Ts own) (hM : vx_Met l y ws rm Pc Qc XC mc ms free) (cw : CallB R s args own index y bytes maxL ret ws rm mc ms n ∧ (Cond.static y).before args s = true) (hp : PreS s H Pc As)
    (hg : g.method = m) (hn : As.length = n) (hsize : g.locals.size = nL) (hstack : g.stack = As.reverse ++ rest) (hW : 2 * g.monitorRoom + (rest.map fun v => v.category).sum ≤ 8) (hdg : decode cc g.pc = .ok (.invokestatic index, 3)) (hf : cells + mc ≤ R.cells ∧ slots + ms ≤ R.slots) :
    vx_Run p l e R s m args below meth c H locs cells slots mc ms g rest (Qc As.toArray) XC free := by
  have hK : vx_Back l R p e below s args y 3 8 (PreOf R mc ms Pc) (PostOf Qc mc ms free) (vx_Post XC mc ms free) := vx_callBack cw.1 hM hp.1
  obtain ⟨⟨-, -, -, -, -, -, hcode, hini, hy, hlen, hl⟩, hstt⟩ := cw
  obtain ⟨hx, hb, hml, ho, -⟩ := S
  intro T hT X
  rcases vx_callS X hx (bytes := bytes) (maxL := maxL) (ret := ret) ho hl hstt hini hcode hy hK hg (hsize.trans hml.symm) (argsL := As) (rest := rest) (fun sig h => hn.trans (hlen sig h)) hstack hW (by rw [hb]; exact hdg)
    (fun vm₁ hW₁ => ⟨hf.1, hf.2, hp.2 (T.setVm vm₁) hT hW₁⟩) with ⟨v, vm₁, ⟨U', l2, c2, s2⟩, hW₁, X', ⟨g', mk, t, L, e1, e2, hq, h1, hL, h2, h3⟩, st⟩ | ⟨q, vm₁, ⟨U', l2, c2, s2⟩, hW₁, X', ⟨g', mk, t, L, E, ce, e1, e2, hq, hce, hcv, hcl, h1, hL, h2, h3⟩, st⟩
  · dsimp only [Pt.U, Pt.locs, Pt.cells, Pt.slots] at X' e1 e2 h1 h2 h3 st
    subst h1; subst h2; subst h3
    exact Or.inl ⟨v, (T.setVm vm₁).calling g' mk As.toArray, t, U', L, hT, X', hL, e1, e2, hq, st⟩
  · dsimp only [Pt.U, Pt.locs, Pt.cells, Pt.slots] at X' e1 e2 h1 h2 h3 st hcl
    subst h1; subst h2; subst h3
    exact Or.inr ⟨q, (T.setVm vm₁).calling g' mk As.toArray, t, U', L, E, ce, hT, X', hL, e1, e2, hq, hce, hcv, vx_cls hW₁ hcl, st⟩
end Runs
section Rows
variable {p : Program} {l : Launch} {e : Env} {R : Room} {s : State} {m : MethodId} {args : Array Value} {below : List Frame} {meth : Method} {c : Code} {H : Heap} {locs : List Loc} {cells slots : Nat} {Q : State → Prop}
variable {mc ms : Nat} {free : Addr → Prop} {A0 A1 : Nat → Prop} {H0 : Heap} {a : Array Value} {pc : Nat} {ls : Array Slot} {st0 rest : List Value}
theorem vx_keep {st₀ t T' : State} {L : List Loc} (h0 : st₀.heap = H) (e1 : T'.heap = t.heap) (hS : va_S A0 H0 H locs) (hA : ∀ q, q < H.size → A1 q → A0 q) (hf : ∀ q, free q → A0 q) (hL : ∀ q ∈ L, free q.base) (hF : va_F A1 st₀ t) :
    H.size ≤ T'.heap.size ∧ (∀ q : Nat, q < H.size → ¬ A1 q → T'.heap[q]? = H[q]?) ∧ va_S A0 H0 T'.heap (locs ++ L) := by
  obtain ⟨hz, hk⟩ := hF
  rw [h0] at hz hk
  exact ⟨by rw [e1]; exact hz, fun q h1 h2 => by rw [e1]; exact hk q h1 h2,
    ⟨Nat.le_trans hS.1 (by rw [e1]; exact hz), fun q h1 h2 => by rw [e1, hk q (Nat.lt_of_lt_of_le h1 hS.1) (fun z => h2 (hA q (Nat.lt_of_lt_of_le h1 hS.1) z))]; exact hS.2.1 q h1 h2, fun q hq => by
      rcases List.mem_append.mp hq with h | h
      · exact hS.2.2 q h
      · exact hf _ (hL q h)⟩⟩
theorem vx_calli {S SX : Type} {post : Int32 → S → Prop} {px : SX → Prop} {B : S → State → Prop} {BX : String → SX → State → Prop} {AX : Nat → Prop} (hr : vx_Run p l e R s m args below meth c H locs cells slots mc ms (F0 m pc ls st0) rest (va_Qi post B A1 a) (vx_X px BX AX) free) (hS : va_S A0 H0 H locs) (hA : ∀ q, q < H.size → A1 q → A0 q) (hf : ∀ q, free q → A0 q) (hAX : ∀ q, q < H.size → AX q → A0 q)
    (kx : ∀ (E : String) (ce : Cell) (q9 : Addr) (u : SX) (t : State) (H1 : Heap) (locs1 : List Loc), t.heap = H1 → s.vm.Alike t.vm → px u → BX E u t → H.size ≤ H1.size → (∀ q : Nat, q < H.size → ¬ AX q → H1[q]? = H[q]?) → va_S A0 H0 H1 locs1 → H1[q9]? = some ce → ce.vm = .none → s.vm.findClass E = some ce.cls → vx_W p l e R s m args below meth c H1 locs1 (cells + mc) (slots + ms) Q (F0 m pc ls rest) q9)
    (kk : ∀ (r : Int32) (u : S) (t : State) (H1 : Heap) (locs1 : List Loc), t.heap = H1 → s.vm.Alike t.vm → post r u → B u t → H.size ≤ H1.size → (∀ q : Nat, q < H.size → ¬ A1 q → H1[q]? = H[q]?) → va_S A0 H0 H1 locs1 → W p l e R s m args below meth c H1 locs1 (cells + mc) (slots + ms) Q (F0 m (pc + 3) ls (.int r :: rest))) : W p l e R s m args below meth c H locs cells slots Q (F0 m pc ls st0) := by
  intro T hT X
  rcases hr T hT X with ⟨v, st₀, t, T', L, h0, X', hL, e1, e2, ⟨⟨r, u, hv, hp, hb⟩, hF⟩, st⟩ | ⟨q, st₀, t, T', L, E, ce, h0, X', hL, e1, e2, ⟨u, hp, hb, hF⟩, hce, hcv, hcl, st⟩
  · cases hv
    obtain ⟨k1, k2, k3⟩ := vx_keep h0 e1 hS hA hf hL hF
    obtain ⟨t2, a1, b1⟩ := kk r u t T'.heap (locs ++ L) e1.symm (by rw [← e2]; exact X'.warmed.alike) hp hb k1 k2 k3 T' rfl X'
    exact ⟨t2, st t2 a1, b1⟩
  · obtain ⟨k1, k2, k3⟩ := vx_keep h0 e1 hS hAX hf hL hF
    obtain ⟨t2, a1, b1⟩ := kx E ce q u t T'.heap (locs ++ L) e1.symm (by rw [← e2]; exact X'.warmed.alike) hp hb k1 k2 k3 (by rw [e1]; exact hce) hcv hcl T' rfl X'
    exact ⟨t2, st.trans a1, b1⟩
theorem vx_calll {S SX : Type} {post : Int64 → S → Prop} {px : SX → Prop} {B : S → State → Prop} {BX : String → SX → State → Prop} {AX : Nat → Prop} (hr : vx_Run p l e R s m args below meth c H locs cells slots mc ms (F0 m pc ls st0) rest (va_Ql post B A1 a) (vx_X px BX AX) free) (hS : va_S A0 H0 H locs) (hA : ∀ q, q < H.size → A1 q → A0 q) (hf : ∀ q, free q → A0 q) (hAX : ∀ q, q < H.size → AX q → A0 q)
    (kx : ∀ (E : String) (ce : Cell) (q9 : Addr) (u : SX) (t : State) (H1 : Heap) (locs1 : List Loc), t.heap = H1 → s.vm.Alike t.vm → px u → BX E u t → H.size ≤ H1.size → (∀ q : Nat, q < H.size → ¬ AX q → H1[q]? = H[q]?) → va_S A0 H0 H1 locs1 → H1[q9]? = some ce → ce.vm = .none → s.vm.findClass E = some ce.cls → vx_W p l e R s m args below meth c H1 locs1 (cells + mc) (slots + ms) Q (F0 m pc ls rest) q9)
    (kk : ∀ (r : Int64) (u : S) (t : State) (H1 : Heap) (locs1 : List Loc), t.heap = H1 → s.vm.Alike t.vm → post r u → B u t → H.size ≤ H1.size → (∀ q : Nat, q < H.size → ¬ A1 q → H1[q]? = H[q]?) → va_S A0 H0 H1 locs1 → W p l e R s m args below meth c H1 locs1 (cells + mc) (slots + ms) Q (F0 m (pc + 3) ls (.long r :: rest))) : W p l e R s m args below meth c H locs cells slots Q (F0 m pc ls st0) := by
  intro T hT X
  rcases hr T hT X with ⟨v, st₀, t, T', L, h0, X', hL, e1, e2, ⟨⟨r, u, hv, hp, hb⟩, hF⟩, st⟩ | ⟨q, st₀, t, T', L, E, ce, h0, X', hL, e1, e2, ⟨u, hp, hb, hF⟩, hce, hcv, hcl, st⟩
  · cases hv
    obtain ⟨k1, k2, k3⟩ := vx_keep h0 e1 hS hA hf hL hF
    obtain ⟨t2, a1, b1⟩ := kk r u t T'.heap (locs ++ L) e1.symm (by rw [← e2]; exact X'.warmed.alike) hp hb k1 k2 k3 T' rfl X'
    exact ⟨t2, st t2 a1, b1⟩
  · obtain ⟨k1, k2, k3⟩ := vx_keep h0 e1 hS hAX hf hL hF
    obtain ⟨t2, a1, b1⟩ := kx E ce q u t T'.heap (locs ++ L) e1.symm (by rw [← e2]; exact X'.warmed.alike) hp hb k1 k2 k3 (by rw [e1]; exact hce) hcv hcl T' rfl X'
    exact ⟨t2, st.trans a1, b1⟩
theorem vx_callf {S SX : Type} {post : UInt32 → S → Prop} {px : SX → Prop} {B : S → State → Prop} {BX : String → SX → State → Prop} {AX : Nat → Prop} (hr : vx_Run p l e R s m args below meth c H locs cells slots mc ms (F0 m pc ls st0) rest (va_Qf post B A1 a) (vx_X px BX AX) free) (hS : va_S A0 H0 H locs) (hA : ∀ q, q < H.size → A1 q → A0 q) (hf : ∀ q, free q → A0 q) (hAX : ∀ q, q < H.size → AX q → A0 q)
    (kx : ∀ (E : String) (ce : Cell) (q9 : Addr) (u : SX) (t : State) (H1 : Heap) (locs1 : List Loc), t.heap = H1 → s.vm.Alike t.vm → px u → BX E u t → H.size ≤ H1.size → (∀ q : Nat, q < H.size → ¬ AX q → H1[q]? = H[q]?) → va_S A0 H0 H1 locs1 → H1[q9]? = some ce → ce.vm = .none → s.vm.findClass E = some ce.cls → vx_W p l e R s m args below meth c H1 locs1 (cells + mc) (slots + ms) Q (F0 m pc ls rest) q9)
    (kk : ∀ (r : UInt32) (u : S) (t : State) (H1 : Heap) (locs1 : List Loc), t.heap = H1 → s.vm.Alike t.vm → post r u → B u t → H.size ≤ H1.size → (∀ q : Nat, q < H.size → ¬ A1 q → H1[q]? = H[q]?) → va_S A0 H0 H1 locs1 → W p l e R s m args below meth c H1 locs1 (cells + mc) (slots + ms) Q (F0 m (pc + 3) ls (.float r :: rest))) : W p l e R s m args below meth c H locs cells slots Q (F0 m pc ls st0) := by
  intro T hT X
  rcases hr T hT X with ⟨v, st₀, t, T', L, h0, X', hL, e1, e2, ⟨⟨r, u, hv, hp, hb⟩, hF⟩, st⟩ | ⟨q, st₀, t, T', L, E, ce, h0, X', hL, e1, e2, ⟨u, hp, hb, hF⟩, hce, hcv, hcl, st⟩
  · cases hv
    obtain ⟨k1, k2, k3⟩ := vx_keep h0 e1 hS hA hf hL hF
    obtain ⟨t2, a1, b1⟩ := kk r u t T'.heap (locs ++ L) e1.symm (by rw [← e2]; exact X'.warmed.alike) hp hb k1 k2 k3 T' rfl X'
    exact ⟨t2, st t2 a1, b1⟩
  · obtain ⟨k1, k2, k3⟩ := vx_keep h0 e1 hS hAX hf hL hF
    obtain ⟨t2, a1, b1⟩ := kx E ce q u t T'.heap (locs ++ L) e1.symm (by rw [← e2]; exact X'.warmed.alike) hp hb k1 k2 k3 (by rw [e1]; exact hce) hcv hcl T' rfl X'
    exact ⟨t2, st.trans a1, b1⟩
theorem vx_calld {S SX : Type} {post : UInt64 → S → Prop} {px : SX → Prop} {B : S → State → Prop} {BX : String → SX → State → Prop} {AX : Nat → Prop} (hr : vx_Run p l e R s m args below meth c H locs cells slots mc ms (F0 m pc ls st0) rest (va_Qd post B A1 a) (vx_X px BX AX) free) (hS : va_S A0 H0 H locs) (hA : ∀ q, q < H.size → A1 q → A0 q) (hf : ∀ q, free q → A0 q) (hAX : ∀ q, q < H.size → AX q → A0 q)
    (kx : ∀ (E : String) (ce : Cell) (q9 : Addr) (u : SX) (t : State) (H1 : Heap) (locs1 : List Loc), t.heap = H1 → s.vm.Alike t.vm → px u → BX E u t → H.size ≤ H1.size → (∀ q : Nat, q < H.size → ¬ AX q → H1[q]? = H[q]?) → va_S A0 H0 H1 locs1 → H1[q9]? = some ce → ce.vm = .none → s.vm.findClass E = some ce.cls → vx_W p l e R s m args below meth c H1 locs1 (cells + mc) (slots + ms) Q (F0 m pc ls rest) q9)
    (kk : ∀ (r : UInt64) (u : S) (t : State) (H1 : Heap) (locs1 : List Loc), t.heap = H1 → s.vm.Alike t.vm → post r u → B u t → H.size ≤ H1.size → (∀ q : Nat, q < H.size → ¬ A1 q → H1[q]? = H[q]?) → va_S A0 H0 H1 locs1 → W p l e R s m args below meth c H1 locs1 (cells + mc) (slots + ms) Q (F0 m (pc + 3) ls (.double r :: rest))) : W p l e R s m args below meth c H locs cells slots Q (F0 m pc ls st0) := by
  intro T hT X
  rcases hr T hT X with ⟨v, st₀, t, T', L, h0, X', hL, e1, e2, ⟨⟨r, u, hv, hp, hb⟩, hF⟩, st⟩ | ⟨q, st₀, t, T', L, E, ce, h0, X', hL, e1, e2, ⟨u, hp, hb, hF⟩, hce, hcv, hcl, st⟩
  · cases hv
    obtain ⟨k1, k2, k3⟩ := vx_keep h0 e1 hS hA hf hL hF
    obtain ⟨t2, a1, b1⟩ := kk r u t T'.heap (locs ++ L) e1.symm (by rw [← e2]; exact X'.warmed.alike) hp hb k1 k2 k3 T' rfl X'
    exact ⟨t2, st t2 a1, b1⟩
  · obtain ⟨k1, k2, k3⟩ := vx_keep h0 e1 hS hAX hf hL hF
    obtain ⟨t2, a1, b1⟩ := kx E ce q u t T'.heap (locs ++ L) e1.symm (by rw [← e2]; exact X'.warmed.alike) hp hb k1 k2 k3 (by rw [e1]; exact hce) hcv hcl T' rfl X'
    exact ⟨t2, st.trans a1, b1⟩
theorem vx_callv {S SX : Type} {post : S → Prop} {px : SX → Prop} {B : S → State → Prop} {BX : String → SX → State → Prop} {AX : Nat → Prop} (hr : vx_Run p l e R s m args below meth c H locs cells slots mc ms (F0 m pc ls st0) rest (va_Qv post B A1 a) (vx_X px BX AX) free) (hS : va_S A0 H0 H locs) (hA : ∀ q, q < H.size → A1 q → A0 q) (hf : ∀ q, free q → A0 q) (hAX : ∀ q, q < H.size → AX q → A0 q)
    (kx : ∀ (E : String) (ce : Cell) (q9 : Addr) (u : SX) (t : State) (H1 : Heap) (locs1 : List Loc), t.heap = H1 → s.vm.Alike t.vm → px u → BX E u t → H.size ≤ H1.size → (∀ q : Nat, q < H.size → ¬ AX q → H1[q]? = H[q]?) → va_S A0 H0 H1 locs1 → H1[q9]? = some ce → ce.vm = .none → s.vm.findClass E = some ce.cls → vx_W p l e R s m args below meth c H1 locs1 (cells + mc) (slots + ms) Q (F0 m pc ls rest) q9)
    (kk : ∀ (u : S) (t : State) (H1 : Heap) (locs1 : List Loc), t.heap = H1 → s.vm.Alike t.vm → post u → B u t → H.size ≤ H1.size → (∀ q : Nat, q < H.size → ¬ A1 q → H1[q]? = H[q]?) → va_S A0 H0 H1 locs1 → W p l e R s m args below meth c H1 locs1 (cells + mc) (slots + ms) Q (F0 m (pc + 3) ls (rest))) : W p l e R s m args below meth c H locs cells slots Q (F0 m pc ls st0) := by
  intro T hT X
  rcases hr T hT X with ⟨v, st₀, t, T', L, h0, X', hL, e1, e2, ⟨⟨u, hv, hp, hb⟩, hF⟩, st⟩ | ⟨q, st₀, t, T', L, E, ce, h0, X', hL, e1, e2, ⟨u, hp, hb, hF⟩, hce, hcv, hcl, st⟩
  · cases hv
    obtain ⟨k1, k2, k3⟩ := vx_keep h0 e1 hS hA hf hL hF
    obtain ⟨t2, a1, b1⟩ := kk u t T'.heap (locs ++ L) e1.symm (by rw [← e2]; exact X'.warmed.alike) hp hb k1 k2 k3 T' rfl X'
    exact ⟨t2, st t2 a1, b1⟩
  · obtain ⟨k1, k2, k3⟩ := vx_keep h0 e1 hS hAX hf hL hF
    obtain ⟨t2, a1, b1⟩ := kx E ce q u t T'.heap (locs ++ L) e1.symm (by rw [← e2]; exact X'.warmed.alike) hp hb k1 k2 k3 (by rw [e1]; exact hce) hcv hcl T' rfl X'
    exact ⟨t2, st.trans a1, b1⟩
/-- caught by the row x of this method's table; the rows ahead don't take it -/
theorem vx_catch {own name : String} {E : String} {ce : Cell} {q : Addr} (hown : s.vm.findClass own = some m.cls) (pre : List ExceptionTableEntry) (x : ExceptionTableEntry) (suf : List ExceptionTableEntry) (hsplit : c.exceptionTable.toList = pre ++ x :: suf)
    (hpass : ∀ z ∈ pre, covers z pc = false ∨ (z.catchType ≠ 0 ∧ ∃ nm : String, (Cond.classLink own z.catchType nm).before args s = true ∧ va_Nc E nm s)) (hx : covers x pc = true) (h0 : x.catchType ≠ 0)
    (hlink : (Cond.classLink own x.catchType name).before args s = true) (hcast : (Cond.castable E name).before args s = true) (hcell : H[q]? = some ce) (hv : ce.vm = .none) (hcl : s.vm.findClass E = some ce.cls)
    (kk : W p l e R s m args below meth c H locs cells slots Q (F0 m x.handlerPc ls [.ref q])) : vx_W p l e R s m args below meth c H locs cells slots Q (F0 m pc ls rest) q := by
  intro T hT X
  have hpl : e.platform.magicAccessors = ({} : Platform).magicAccessors := by rw [X.admits.platform]
  obtain ⟨c3, c4, hc3, hc4, hasg⟩ := Cond.castable_spec hcast
  cases Option.some.inj (hc3.symm.trans hcl)
  obtain ⟨c5, hc5, hcl5⟩ := Cond.classLink_spec hown hlink e.platform hpl
  cases Option.some.inj (hc4.symm.trans hc5)
  obtain ⟨vm', X', st⟩ := X.thenCaughtThrough q (g := F0 m pc ls rest) rfl (Steps.refl _) (by rw [hT]; exact hcell) (by rw [hv]; rfl) (by obtain ⟨k9, h9, -⟩ := Vm.findClass_spec hcl; exact ⟨k9, h9⟩) pre x suf hsplit
    (fun z hz => by
      rcases hpass z hz with h | ⟨hz0, nm, hl1, hn1⟩
      · exact Or.inl h
      · obtain ⟨c6, hc6, hcl6⟩ := Cond.classLink_spec hown hl1 e.platform hpl
        obtain ⟨a8, b8, h1, h2, h3⟩ := hn1
        cases Option.some.inj (h1.symm.trans hcl)
        cases Option.some.inj (h2.symm.trans hc6)
        exact Or.inr ⟨hz0, _, hcl6, h3⟩) hx (Or.inr ⟨h0, c4, hcl5, hasg⟩)
  obtain ⟨t, a1, b1⟩ := kk (T.setVm vm') hT X'
  exact ⟨t, st.trans a1, b1⟩
end Rows
section Ends
variable {p : Program} {l : Launch} {e : Env} {R : Room} {s : State} {m : MethodId} {args : Array Value} {below : List Frame} {meth : Method} {c : Code} {H : Heap} {locs : List Loc} {cells slots : Nat} {Q : State → Prop}
variable {mc ms : Nat} {free : Addr → Prop} {A0 A1 : Nat → Prop} {H0 : Heap} {a : Array Value} {ls : Array Slot} {st0 rest : List Value}
variable {Qc : Array Value → State → Outcome → State → Prop} {XC : String → State → State → Prop}
/-- what a body that may throw owes at its end -/
def vx_MQ (below : List Frame) (Qc : Array Value → State → Outcome → State → Prop) (XC : String → State → State → Prop) (a : Array Value) (s : State) (mc ms : Nat) (free : Addr → Prop) : State → Prop := fun t =>
  ∃ o, t.status = .running ∧ Ended t below o ∧ vx_Q Qc XC mc ms free a s o t
theorem vx_ret {g : JFrame} {mc ms : Nat} (k : W p l e R s m args below meth c H locs cells slots (MQ below Qc args s mc ms free) g) : W p l e R s m args below meth c H locs cells slots (vx_MQ below Qc XC args s mc ms free) g := by
  intro T hT X
  obtain ⟨t, a1, o, b1, b2, b3, b4⟩ := k T hT X
  exact ⟨t, a1, o, b1, b2, Or.inl ⟨b3, b4⟩⟩
/-- not caught here: it goes on to the caller -/
theorem vx_widen {g : JFrame} {q : Addr} {k n : Nat} (h1 : cells ≤ k) (h2 : slots ≤ n) (kk : vx_W p l e R s m args below meth c H locs k n Q g q) : vx_W p l e R s m args below meth c H locs cells slots Q g q := fun T hT X => kk T hT (stand_widen X h1 h2)
theorem vx_out {pc : Nat} {E : String} {ce : Cell} {q : Addr} {mc ms : Nat} (hout : ∀ x ∈ c.exceptionTable.toList, covers x pc = false) (hlocks : meth.locks = false) (hcell : H[q]? = some ce) (hv : ce.vm = .none) (hcl : s.vm.findClass E = some ce.cls)
    (hx : ∀ t : State, t.heap = H → s.vm.Alike t.vm → XC E s t) (hf : ∀ z ∈ locs, free z.base) (hc : cells ≤ mc) (hs : slots ≤ ms) :
    vx_W p l e R s m args below meth c H locs cells slots (vx_MQ below Qc XC args s mc ms free) (F0 m pc ls rest) q := by
  intro T hT X
  obtain ⟨st1, hrun, hend, hW, hsm⟩ := X.leaveThrown q (g := F0 m pc ls rest) rfl rfl rfl hout hlocks
  have hcell9 : (T.setFrames (.throwing q :: below)).heap[q]? = some ce := by
    show T.heap[q]? = some ce
    rw [hT]; exact hcell
  exact ⟨_, st1, .threw q, hrun, hend, Or.inr ⟨q, rfl, E, ce, locs, hx _ hT hW.alike, hcell9, hv, hcl, hW, hsm.mono hc hs, hf⟩⟩
theorem vx_frame {U : State} {k n : Nat} (h : s.sameButNew ({ U with vm := s.vm } : State) locs k n) : s.heap.size ≤ U.heap.size ∧ ∀ q : Nat, q < s.heap.size → (∀ z ∈ locs, z.base ≠ q) → U.heap[q]? = s.heap[q]? := by
  obtain ⟨-, h2, -, -, -, h6⟩ := h
  refine ⟨h2, fun q hq hz => ?_⟩
  obtain ⟨c9, e1, e2, e3, e4⟩ := h6 q _ (Array.getElem?_eq_getElem hq)
  have hs : c9.slots = (s.heap[q]).slots := Array.ext_getElem? fun i => e4 i fun hm => hz _ hm rfl
  have h9 : c9 = s.heap[q] := by
    rw [hs] at e2
    exact e2
  have e5 : U.heap[q]? = some c9 := e1
  rw [e5, h9, Array.getElem?_eq_getElem hq]
/-- the words of a throw but the four that speak of the heap -/
def vx_no (w : Cond) : Bool := decide (w ≠ .isRef (.static Bundle.tN "UNASSIGNED_STACK" Bundle.steD)) && decide (w ≠ .isRef (.static Bundle.tN "SUPPRESSED_SENTINEL" Bundle.listD)) && decide (w ≠ .laysStatic Bundle.tN "UNASSIGNED_STACK" Bundle.steD) && decide (w ≠ .laysStatic Bundle.tN "SUPPRESSED_SENTINEL" Bundle.listD)
def vx_at0 (own : String) (ic : Nat) (X : String) (names : List String) : List Cond := (Bundle.ownAtoms0 own ic X names).filter vx_no
def vx_atS (own : String) (ic : Nat) (X : String) (names : List String) : List Cond := (Bundle.ownAtoms own ic X names).filter vx_no
/-- a word that the tables alone decide, or a good one -/
def vx_ot (w : Cond) : Bool := w.onTables || goodWord w
theorem vx_ot_at {args a' : Array Value} {s U : State} {w : Cond} (hW : s.WarmedH U.vm) (hvm : s.vm = U.vm) (hg : vx_ot w = true) (h : w.before args s = true) : w.before a' U = true := by
  simp only [vx_ot, Bool.or_eq_true] at hg
  rcases hg with hg | hg
  · exact va_tabs hg hvm h
  · exact word_at hW (good_of_word hg) h
/-- a list's words: the good ones out of the method's own list, the others by premises of their own -/
theorem vx_hat {args : Array Value} {s : State} {L B : List Cond} (h1 : ∀ w ∈ L.filter goodWord, w.before args s = true) (h2 : ∀ w ∈ L.filter (fun w => !goodWord w), w ∈ B) (h3 : ∀ w ∈ B, w.before args s = true) : ∀ w ∈ L, w.before args s = true := by
  intro w hw
  by_cases g : goodWord w = true
  · exact h1 w (List.mem_filter.mpr ⟨hw, g⟩)
  · refine h3 w (h2 w (List.mem_filter.mpr ⟨hw, ?_⟩))
    show (!goodWord w) = true
    cases hgw : goodWord w
    · rfl
    · exact absurd hgw g
theorem vx_c {args : Array Value} {s : State} {w : Cond} {B : List Cond} (h : w.before args s = true) (t : ∀ w ∈ B, w.before args s = true) : ∀ w' ∈ w :: B, w'.before args s = true := fun w' h' => (List.mem_cons.mp h').elim (fun e => by rw [e]; exact h) (t w')
theorem vx_n {args : Array Value} {s : State} : ∀ w ∈ ([] : List Cond), w.before args s = true := fun _ h => nomatch h
theorem vx_own {args : Array Value} {s : State} {L : List Cond} (h1 : ∀ w ∈ L.filter vx_no, w.before args s = true)
    (hU : (Cond.isRef (.static Bundle.tN "UNASSIGNED_STACK" Bundle.steD)).before args s = true) (hN : (Cond.isRef (.static Bundle.tN "SUPPRESSED_SENTINEL" Bundle.listD)).before args s = true)
    (lU : (Cond.laysStatic Bundle.tN "UNASSIGNED_STACK" Bundle.steD).before args s = true) (lN : (Cond.laysStatic Bundle.tN "SUPPRESSED_SENTINEL" Bundle.listD).before args s = true) : ∀ w ∈ L, w.before args s = true := by
  intro w hw
  by_cases e1 : w = .isRef (.static Bundle.tN "UNASSIGNED_STACK" Bundle.steD)
  · rw [e1]; exact hU
  · by_cases e2 : w = .isRef (.static Bundle.tN "SUPPRESSED_SENTINEL" Bundle.listD)
    · rw [e2]; exact hN
    · by_cases e3 : w = .laysStatic Bundle.tN "UNASSIGNED_STACK" Bundle.steD
      · rw [e3]; exact lU
      · by_cases e4 : w = .laysStatic Bundle.tN "SUPPRESSED_SENTINEL" Bundle.listD
        · rw [e4]; exact lN
        · exact h1 w (List.mem_filter.mpr ⟨hw, by unfold vx_no; rw [decide_eq_true e1, decide_eq_true e2, decide_eq_true e3, decide_eq_true e4]; rfl⟩)
/-- where a static field lies, its class's statics cell in H -/
def vx_L (C n d : String) (A : Nat → Prop) (U : State) (H : Heap) : Prop := ∃ (c : ClassId) (k : Class) (i : Nat) (f : Field) (a : Nat) (cell : Cell), U.vm.findClass C = some c ∧ U.fieldFound? C n d = some (c, k, i, f) ∧ f.isStatic = true ∧ k.statics = some a ∧ H[a]? = some cell ∧ cell.vm.isStatics = true ∧ cell.cls = c ∧ f.slot < cell.slots.size ∧ k.staticTypes[f.slot]? = some f.type ∧ ¬ A a
theorem vx_L.moved {C n d : String} {A : Nat → Prop} {u U : State} {H : Heap} (hvm : u.vm.Alike U.vm) (h : vx_L C n d A u H) : vx_L C n d A U H := by
  obtain ⟨c, k, i, f, a, cell, h1, h2, h3, h4, h5, h6, h7, h8, h9, h10⟩ := h
  obtain ⟨k', hi', he⟩ := State.fieldFound?_setVm hvm h2
  exact ⟨c, k', i, f, a, cell, by rw [hvm.findClass]; exact h1, hi', h3, by rw [he]; exact h4, h5, h6, h7, h8, by rw [he]; exact h9, h10⟩
theorem vx_L.kept {C n d : String} {A : Nat → Prop} {U : State} {H H1 : Heap} (h : vx_L C n d A U H) (hq : ∀ a : Nat, a < H.size → ¬ A a → H1[a]? = H[a]?) : vx_L C n d A U H1 := by
  obtain ⟨c, k, i, f, a, cell, h1, h2, h3, h4, h5, h6, h7, h8, h9, h10⟩ := h
  exact ⟨c, k, i, f, a, cell, h1, h2, h3, h4, by rw [hq a (Array.getElem?_eq_some_iff.mp h5).1 h10]; exact h5, h6, h7, h8, h9, h10⟩
theorem vx_L.narrow {C n d : String} {A B : Nat → Prop} {U : State} {H : Heap} (h : vx_L C n d A U H) (hAB : ∀ q, B q → A q) : vx_L C n d B U H := by
  obtain ⟨c, k, i, f, a, cell, h1, h2, h3, h4, h5, h6, h7, h8, h9, h10⟩ := h
  exact ⟨c, k, i, f, a, cell, h1, h2, h3, h4, h5, h6, h7, h8, h9, fun z => h10 (hAB _ z)⟩
theorem vx_L.word {C n d : String} {A : Nat → Prop} {s : State} {args : Array Value} (h : vx_L C n d A s s.heap) : (Cond.laysStatic C n d).before args s = true := by
  obtain ⟨c, k, i, f, a, cell, h1, h2, h3, h4, h5, h6, h7, h8, h9, -⟩ := h
  show (Cond.laysStatic C n d).holds args s none s [] = true
  exact Cond.laysStatic_of h1 h2 h3 h4 h5 h6 h7 h8 h9
/-- .. and what it holds: null or some reference -/
def vx_Zq (C n d : String) (A : Nat → Prop) (U : State) (H : Heap) : Prop := va_Zq C n d A U H ∧ vx_L C n d A U H
theorem vx_Zq.moved {C n d : String} {A : Nat → Prop} {u U : State} {H : Heap} (hvm : u.vm.Alike U.vm) (h : vx_Zq C n d A u H) : vx_Zq C n d A U H := ⟨va_Zq.moved hvm h.1, vx_L.moved hvm h.2⟩
theorem vx_Zq.kept {C n d : String} {A : Nat → Prop} {U : State} {H H1 : Heap} (h : vx_Zq C n d A U H) (hq : ∀ a : Nat, a < H.size → ¬ A a → H1[a]? = H[a]?) : vx_Zq C n d A U H1 := ⟨va_Zq.kept h.1 hq, vx_L.kept h.2 hq⟩
theorem vx_Zq.narrow {C n d : String} {A B : Nat → Prop} {U : State} {H : Heap} (h : vx_Zq C n d A U H) (hAB : ∀ q, B q → A q) : vx_Zq C n d B U H := ⟨va_Zq.narrow h.1 hAB, vx_L.narrow h.2 hAB⟩
theorem vx_Zqof {args : Array Value} {s : State} {C n d : String} {A : Nat → Prop} (hl : (Cond.laysStatic C n d).before args s = true) (hini : (Cond.initialized C).before args s = true) (h : (Cond.isRef (.static C n d)).before args s = true) (hA : ∀ a : Nat, a < s.heap.size → ¬ A a) : vx_Zq C n d A s s.heap := by
  refine ⟨va_Zqof hl hini h hA, ?_⟩
  obtain ⟨c, k, i, f, a, cell, h1, h2, h3, h4, h5, h6, h7, h8, h9⟩ := Cond.laysStatic_spec hl
  exact ⟨c, k, i, f, a, cell, h1, h2, h3, h4, h5, h6, h7, h8, h9, hA a (Array.getElem?_eq_some_iff.mp h5).1⟩
theorem vx_isRef {C n d : String} {v : Value} {A : Nat → Prop} {s : State} {args : Array Value} (h : va_Z C n d v A s s.heap) (hv : v.isRef = true) : (Cond.isRef (.static C n d)).before args s = true := by
  obtain ⟨cf, kf, fi, f, a, cell, h1, h2, h3, h4, h5, h6, h7, -⟩ := h
  have he : (Term.static C n d).eval args s none [] s = some v := by
    simp [Term.eval, State.fieldNamed?, h1, h2, h4, h5, h6, h7]
  simp only [Cond.before, Cond.holds, Cond.value, he]
  cases v <;> simp_all [Value.isRef]
theorem vx_isRefq {C n d : String} {A : Nat → Prop} {s : State} {args : Array Value} (h : va_Zq C n d A s s.heap) : (Cond.isRef (.static C n d)).before args s = true := by
  rcases h with h | ⟨t, h⟩
  · exact vx_isRef h rfl
  · exact vx_isRef h rfl
/-- the same frame, seen from here: as if the method were called anew in this heap -/
theorem vx_rebase {T : State} (X : Stand p l e R s m args below meth c T locs cells slots) {R' : Room} (hf : R'.frames ≤ R.frames) (hl : R'.locals ≤ R.locals) (hc : cells + R'.cells ≤ R.cells) (hs : slots + R'.slots ≤ R.slots) :
    Stand p l e R' ((T.setVm s.vm).setFrames (.invoking m args :: below)) m args below meth c T [] 0 0 := by
  have htop : (T.setVm s.vm).topJava?.isSome := X.here.top
  have hF : ((T.setVm s.vm).setFrames (.invoking m args :: below)).frames = .invoking m args :: below := State.frames_setFrames _ (State.cur_lt_of_top htop)
  obtain ⟨g₀, hg0⟩ := Option.isSome_iff_exists.mp htop
  obtain ⟨r, hr⟩ := State.topJava?_eq_some.mp hg0
  have hl9 : e.platform.stackLimits (T.setVm s.vm).me = e.platform.stackLimits s.me := X.limits
  have hb9 : (T.setVm s.vm).me.stackBytes = s.me.stackBytes := X.bytes
  refine ⟨X.admits, X.cas, X.clock, hF, ?_, X.hears, X.method, X.code, X.here, X.tail, X.warmed, ?_, ?_, ?_⟩
  · have h := X.room
    have hU : ((T.setVm s.vm).setFrames (.invoking m args :: below)).localsInUse = s.localsInUse := by
      rw [State.localsInUse_invoking hF (meth := meth) (c := c) X.method X.code, State.localsInUse_invoking X.frames X.method X.code]
    simp only [State.hasRoom, Bool.and_eq_true, decide_eq_true_eq] at h ⊢
    obtain ⟨⟨⟨⟨h1, h2, h3, h4, h5, h6⟩, h7⟩, h8⟩, h9⟩ := h
    rw [X.frames, List.length_cons] at h2 h3
    have q1 := X.heapSize
    have q2 := X.used
    simp only [hF, hU, List.length_cons, State.stackLimits_setFrames, State.stackBytes_setFrames, hl9, hb9]
    refine ⟨⟨⟨⟨by omega, by omega, by omega, by omega, by omega, h6⟩, ?_⟩, ?_⟩, X.book⟩
    · show T.heap.size + R'.cells ≤ e.platform.maxCells
      omega
    · show T.slotsUsed + R'.slots ≤ e.platform.maxSlots
      omega
  · rw [State.stackLimits_setFrames]; rfl
  · rw [State.stackBytes_setFrames]; rfl
  · refine ⟨?_, Nat.le_refl _, Nat.le_refl _, ?_, ?_, fun a c9 h9 => ⟨c9, h9, rfl, rfl, fun _ _ => rfl⟩⟩
    · obtain ⟨t, ht, -⟩ := State.frames_cons hr
      show T.setVm s.vm = { ((T.setVm s.vm).setFrames (.invoking m args :: below)).setFrames (T.setVm s.vm).frames with heap := T.heap, slotsUsed := T.slotsUsed }
      rw [State.setFrames_setFrames, State.setFrames_self ht]
      rfl
    · show T.slotsUsed = T.slotsUsed + ((T.heap.toList.drop T.heap.size).map (·.slots.size)).sum
      rw [List.drop_eq_nil_of_le (Nat.le_of_eq Array.length_toList)]
      rfl
    · show ((T.heap.toList.drop T.heap.size).map (·.slots.size)).sum ≤ 0
      rw [List.drop_eq_nil_of_le (Nat.le_of_eq Array.length_toList)]
      exact Nat.le_refl _
/-- 'throw new E()': new; dup; invokespecial; athrow -/
theorem vx_throw0 {cc : ByteArray} {pc : Nat} (hexec : p.tables.exec = Jvm.exec) (hb : c.code = cc) (hl : l.stackTraces = false) {own cls : String} {names : List String} {ik ic mc ms : Nat} {A : Nat → Prop}
    (hown : s.vm.findClass own = some m.cls) (hcls : Bundle.fit cls = true) (hnames : ∀ n ∈ names, Bundle.fit n = true)
    (hk : (Cond.classLink own ik cls).before args s = true) (hini : (Cond.initialized cls).before args s = true) (hat : ∀ w ∈ vx_at0 own ic cls names, w.before args s = true)
    (hgood : ∀ w ∈ Cond.classLink own ik cls :: Cond.initialized cls :: vx_at0 own ic cls names, vx_ot w = true)
    (hU : vx_Zq Bundle.tN "UNASSIGNED_STACK" Bundle.steD A s s.heap) (hN : vx_Zq Bundle.tN "SUPPRESSED_SENTINEL" Bundle.listD A s s.heap) (hS : va_S A s.heap H locs) (hsize : ls.size = c.maxLocals)
    (d0 : decode cc pc = .ok (.new ik, 3)) (d3 : decode cc (pc + 3) = .ok (.dup, 1)) (d4 : decode cc (pc + 4) = .ok (.invokespecial ic, 3)) (d7 : decode cc (pc + 7) = .ok (.athrow, 1))
    (hout : ∀ x ∈ c.exceptionTable.toList, covers x (pc + 7) = false)
    (hRframes : names.length + 3 < R.frames) (hRlocals : (rest.map fun v => v.category).sum + (13 * (names.length + 1) + 42) ≤ R.locals) (hRcells : cells + 1 ≤ R.cells) (hRslots : slots + 6 ≤ R.slots) (hlocks : meth.locks = false)
    (hx : ∀ t : State, s.vm.Alike t.vm → H.size ≤ t.heap.size → (∀ q : Nat, q < H.size → t.heap[q]? = H[q]?) → XC cls s t)
    (hf : ∀ z ∈ locs, free z.base) (hc : cells + 1 ≤ mc) (hs : slots + 6 ≤ ms) :
    W p l e R s m args below meth c H locs cells slots (vx_MQ below Qc XC args s mc ms free) (F0 m pc ls rest) := by
  intro T hT X
  have htr : e.platform.stackTraces = false := (show e.platform.stackTraces = l.stackTraces by rw [X.admits.platform]).trans hl
  have Y := vx_rebase X (R' := { frames := R.frames, locals := R.locals, cells := 1, slots := 6 }) (Nat.le_refl _) (Nat.le_refl _) hRcells hRslots
  obtain ⟨s', hA⟩ : ∃ z, z = (T.setVm s.vm).setFrames (.invoking m args :: below) := ⟨_, rfl⟩
  rw [← hA] at Y
  have hvm : s'.vm = s.vm := by rw [hA]; rfl
  have hhp : s'.heap = H := by rw [hA]; exact hT
  have hW0 : s.WarmedH s'.vm := by rw [hvm]; exact State.WarmedH.refl s
  have hat' : ∀ w ∈ vx_at0 own ic cls names, w.before args s' = true := fun w hw => vx_ot_at hW0 hvm.symm (hgood w (List.mem_cons_of_mem _ (List.mem_cons_of_mem _ hw))) (hat w hw)
  have hk' : (Cond.classLink own ik cls).before args s' = true := vx_ot_at hW0 hvm.symm (hgood _ List.mem_cons_self) hk
  have hini' : (Cond.initialized cls).before args s' = true := vx_ot_at hW0 hvm.symm (hgood _ (List.mem_cons_of_mem _ List.mem_cons_self)) hini
  have hU' : vx_Zq Bundle.tN "UNASSIGNED_STACK" Bundle.steD A s' s'.heap := by rw [hhp]; exact vx_Zq.moved hW0.alike (hU.kept hS.2.1)
  have hN' : vx_Zq Bundle.tN "SUPPRESSED_SENTINEL" Bundle.listD A s' s'.heap := by rw [hhp]; exact vx_Zq.moved hW0.alike (hN.kept hS.2.1)
  have h : ∀ w ∈ Bundle.ownAtoms0 own ic cls names, w.before args s' = true := vx_own hat' (vx_isRefq hU'.1) (vx_isRefq hN'.1) hU'.2.word hN'.2.word
  have hown' : s'.vm.findClass own = some m.cls := by rw [hvm]; exact hown
  have hins : (Cond.instantiable cls 6).before args s' = true := h _ (by simp [Bundle.ownAtoms0])
  obtain ⟨vm₁, cX, kX, hfX, hkX, -, -, X₁, st1⟩ := Y.newCold hexec (own := own) (C := cls) (index := ik) (n := 6) hown' hk' hins hini'
    (g := F0 m pc ls rest) rfl (by rw [hb]; exact d0) (Nat.le_refl _) (Nat.le_refl _)
  generalize hT1 : (T.setVm vm₁).pushCell { cls := cX, slots := kX.instanceTypes.map defaultValue, vm := .none } = T1 at X₁ st1
  have hcat : (Value.ref T.heap.size).category = 1 := rfl
  have hcellA : T1.heap[T.heap.size]? = some (freshCell cX kX) := by rw [← hT1]; exact State.heap_pushCell_size _ _
  have d3' : decode c.code (pc + 3) = .ok (.dup, 1) := by rw [hb]; exact d3
  obtain ⟨U, hsteps, hrun, hend, hW, hsame, ce, hce, hO⟩ := X₁.ctorThrow0 hexec htr (own := own) (cls := cls) (names := names) (ic := ic) hown' hcls hnames h (fun x hx => nomatch hx) hfX hkX hcellA (by rw [hhp, hT]; exact Nat.le_refl _)
    (g := { method := m, pc := pc + 4, locals := ls, stack := .ref T.heap.size :: .ref T.heap.size :: rest, locked := none }) rfl hsize rfl rfl (rest := rest) rfl
    (by rw [hb]; exact d4) (by rw [hb]; exact d7) hout hRframes (by simp only [List.map_cons, List.sum_cons, hcat]; omega) hlocks
  obtain ⟨f1, f2⟩ := vx_frame hsame
  rw [hhp] at f1 f2
  have hWs : s.WarmedH U.vm := State.WarmedH.trans hW0 hW
  have hcl : s.vm.findClass cls = some ce.cls := by
    have h9 := hO.cls
    rw [hvm] at h9
    exact h9
  have hall : s.sameButNew ({ U with vm := s.vm } : State) locs mc ms := by
    subst hA
    obtain ⟨e1, e2⟩ := hsame
    rw [State.setFrames_setFrames] at e1
    have h2 : (T.setVm s.vm).sameButNew ({ U with vm := s.vm } : State) [] (0 + 1) (0 + 6) := ⟨e1, e2⟩
    have h3 := X.same.trans h2
    rw [List.append_nil] at h3
    exact h3.mono hc hs
  refine ⟨U, ?_, .threw T.heap.size, hrun, hend, Or.inr ⟨T.heap.size, rfl, cls, ce, locs, hx U hWs.alike f1 (fun q hq => f2 q hq (fun z hz => nomatch hz)), hce, hO.vm, hcl, hWs, hall, hf⟩⟩
  refine st1 _ ?_
  show Steps p.tables e below (T1.setTop { method := m, pc := pc + 3, locals := ls, stack := .ref T.heap.size :: rest, locked := none }) _
  jvm_step X₁.here [X₁.here.top, hexec, d3', Value.category]
  exact hsteps
/-- 'throw new E("text")': new; dup; ldc; invokespecial; athrow -/
theorem vx_throwS {cc : ByteArray} {pc : Nat} (hexec : p.tables.exec = Jvm.exec) (hb : c.code = cc) (hl : l.stackTraces = false) {own cls text : String} {names : List String} {ik is ic mc ms sa : Nat} {A : Nat → Prop}
    (hown : s.vm.findClass own = some m.cls) (hcls : Bundle.fit cls = true) (hnames : ∀ n ∈ names, Bundle.fit n = true)
    (hk : (Cond.classLink own ik cls).before args s = true) (hini : (Cond.initialized cls).before args s = true) (hstr : vk_R own is text sa s) (hat : ∀ w ∈ vx_atS own ic cls names, w.before args s = true)
    (hgood : ∀ w ∈ Cond.classLink own ik cls :: Cond.initialized cls :: vx_atS own ic cls names, vx_ot w = true)
    (hU : vx_Zq Bundle.tN "UNASSIGNED_STACK" Bundle.steD A s s.heap) (hN : vx_Zq Bundle.tN "SUPPRESSED_SENTINEL" Bundle.listD A s s.heap) (hS : va_S A s.heap H locs) (hsize : ls.size = c.maxLocals)
    (d0 : decode cc pc = .ok (.new ik, 3)) (d3 : decode cc (pc + 3) = .ok (.dup, 1)) (d4 : decode cc (pc + 4) = .ok (.ldc is, 2)) (d6 : decode cc (pc + 6) = .ok (.invokespecial ic, 3)) (d9 : decode cc (pc + 9) = .ok (.athrow, 1))
    (hout : ∀ x ∈ c.exceptionTable.toList, covers x (pc + 9) = false)
    (hRframes : names.length + 3 < R.frames) (hRlocals : (rest.map fun v => v.category).sum + (13 * (names.length + 1) + 43) ≤ R.locals) (hRcells : cells + 1 ≤ R.cells) (hRslots : slots + 6 ≤ R.slots) (hlocks : meth.locks = false)
    (hx : ∀ t : State, s.vm.Alike t.vm → H.size ≤ t.heap.size → (∀ q : Nat, q < H.size → t.heap[q]? = H[q]?) → XC cls s t)
    (hf : ∀ z ∈ locs, free z.base) (hc : cells + 1 ≤ mc) (hs : slots + 6 ≤ ms) :
    W p l e R s m args below meth c H locs cells slots (vx_MQ below Qc XC args s mc ms free) (F0 m pc ls rest) := by
  intro T hT X
  have htr : e.platform.stackTraces = false := (show e.platform.stackTraces = l.stackTraces by rw [X.admits.platform]).trans hl
  have Y := vx_rebase X (R' := { frames := R.frames, locals := R.locals, cells := 1, slots := 6 }) (Nat.le_refl _) (Nat.le_refl _) hRcells hRslots
  obtain ⟨s', hA⟩ : ∃ z, z = (T.setVm s.vm).setFrames (.invoking m args :: below) := ⟨_, rfl⟩
  rw [← hA] at Y
  have hvm : s'.vm = s.vm := by rw [hA]; rfl
  have hhp : s'.heap = H := by rw [hA]; exact hT
  have hW0 : s.WarmedH s'.vm := by rw [hvm]; exact State.WarmedH.refl s
  have hat' : ∀ w ∈ vx_atS own ic cls names, w.before args s' = true := fun w hw => vx_ot_at hW0 hvm.symm (hgood w (List.mem_cons_of_mem _ (List.mem_cons_of_mem _ hw))) (hat w hw)
  have hk' : (Cond.classLink own ik cls).before args s' = true := vx_ot_at hW0 hvm.symm (hgood _ List.mem_cons_self) hk
  have hini' : (Cond.initialized cls).before args s' = true := vx_ot_at hW0 hvm.symm (hgood _ (List.mem_cons_of_mem _ List.mem_cons_self)) hini
  have hU' : vx_Zq Bundle.tN "UNASSIGNED_STACK" Bundle.steD A s' s'.heap := by rw [hhp]; exact vx_Zq.moved hW0.alike (hU.kept hS.2.1)
  have hN' : vx_Zq Bundle.tN "SUPPRESSED_SENTINEL" Bundle.listD A s' s'.heap := by rw [hhp]; exact vx_Zq.moved hW0.alike (hN.kept hS.2.1)
  have h : ∀ w ∈ Bundle.ownAtoms own ic cls names, w.before args s' = true := vx_own hat' (vx_isRefq hU'.1) (vx_isRefq hN'.1) hU'.2.word hN'.2.word
  have hown' : s'.vm.findClass own = some m.cls := by rw [hvm]; exact hown
  have hins : (Cond.instantiable cls 6).before args s' = true := h _ (by simp [Bundle.ownAtoms])
  obtain ⟨vm₁, cX, kX, hfX, hkX, -, -, X₁, st1⟩ := Y.newCold hexec (own := own) (C := cls) (index := ik) (n := 6) hown' hk' hins hini'
    (g := F0 m pc ls rest) rfl (by rw [hb]; exact d0) (Nat.le_refl _) (Nat.le_refl _)
  generalize hT1 : (T.setVm vm₁).pushCell { cls := cX, slots := kX.instanceTypes.map defaultValue, vm := .none } = T1 at X₁ st1
  have hcat : (Value.ref T.heap.size).category = 1 := rfl
  have hcellA : T1.heap[T.heap.size]? = some (freshCell cX kX) := by rw [← hT1]; exact State.heap_pushCell_size _ _
  have d3' : decode c.code (pc + 3) = .ok (.dup, 1) := by rw [hb]; exact d3
  have d4' : decode c.code (pc + 4) = .ok (.ldc is, 2) := by rw [hb]; exact d4
  have hstr' : vk_R own is text sa s' := vk_R.warm hW0 hstr
  obtain ⟨U, hsteps, hrun, hend, hW, hsame, ce, hce, hO⟩ := X₁.ctorThrowS hexec htr (own := own) (cls := cls) (names := names) (ic := ic) hown' hcls hnames h (fun x hx => nomatch hx) hfX hkX hcellA (by rw [hhp, hT]; exact Nat.le_refl _) (msg := .ref sa) rfl
    (g := { method := m, pc := pc + 6, locals := ls, stack := .ref sa :: .ref T.heap.size :: .ref T.heap.size :: rest, locked := none }) rfl hsize rfl rfl (rest := rest) rfl
    (by rw [hb]; exact d6) (by rw [hb]; exact d9) hout hRframes (by simp only [List.map_cons, List.sum_cons, hcat]; omega) hlocks
  obtain ⟨f1, f2⟩ := vx_frame hsame
  rw [hhp] at f1 f2
  have hWs : s.WarmedH U.vm := State.WarmedH.trans hW0 hW
  have hcl : s.vm.findClass cls = some ce.cls := by
    have h9 := hO.cls
    rw [hvm] at h9
    exact h9
  have hall : s.sameButNew ({ U with vm := s.vm } : State) locs mc ms := by
    subst hA
    obtain ⟨e1, e2⟩ := hsame
    rw [State.setFrames_setFrames] at e1
    have h2 : (T.setVm s.vm).sameButNew ({ U with vm := s.vm } : State) [] (0 + 1) (0 + 6) := ⟨e1, e2⟩
    have h3 := X.same.trans h2
    rw [List.append_nil] at h3
    exact h3.mono hc hs
  refine ⟨U, ?_, .threw T.heap.size, hrun, hend, Or.inr ⟨T.heap.size, rfl, cls, ce, locs, hx U hWs.alike f1 (fun q hq => f2 q hq (fun z hz => nomatch hz)), hce, hO.vm, hcl, hWs, hall, hf⟩⟩
  refine st1 _ ?_
  show Steps p.tables e below (T1.setTop { method := m, pc := pc + 3, locals := ls, stack := .ref T.heap.size :: rest, locked := none }) _
  jvm_step X₁.here [X₁.here.top, hexec, d3', Value.category]
  exact X₁.ldcString hexec (own := own) (text := text) (index := is) (a := sa) hown' hstr'.1 hstr'.2
    (g := { method := m, pc := pc + 4, locals := ls, stack := .ref T.heap.size :: .ref T.heap.size :: rest, locked := none }) rfl d4' _ hsteps
/-- 'throw new E("text")', the text by a wide index -/
theorem vx_throwSW {cc : ByteArray} {pc : Nat} (hexec : p.tables.exec = Jvm.exec) (hb : c.code = cc) (hl : l.stackTraces = false) {own cls text : String} {names : List String} {ik is ic mc ms sa : Nat} {A : Nat → Prop}
    (hown : s.vm.findClass own = some m.cls) (hcls : Bundle.fit cls = true) (hnames : ∀ n ∈ names, Bundle.fit n = true)
    (hk : (Cond.classLink own ik cls).before args s = true) (hini : (Cond.initialized cls).before args s = true) (hstr : vk_R own is text sa s) (hat : ∀ w ∈ vx_atS own ic cls names, w.before args s = true)
    (hgood : ∀ w ∈ Cond.classLink own ik cls :: Cond.initialized cls :: vx_atS own ic cls names, vx_ot w = true)
    (hU : vx_Zq Bundle.tN "UNASSIGNED_STACK" Bundle.steD A s s.heap) (hN : vx_Zq Bundle.tN "SUPPRESSED_SENTINEL" Bundle.listD A s s.heap) (hS : va_S A s.heap H locs) (hsize : ls.size = c.maxLocals)
    (d0 : decode cc pc = .ok (.new ik, 3)) (d3 : decode cc (pc + 3) = .ok (.dup, 1)) (d4 : decode cc (pc + 4) = .ok (.ldc_w is, 3)) (d7 : decode cc (pc + 7) = .ok (.invokespecial ic, 3)) (d10 : decode cc (pc + 10) = .ok (.athrow, 1))
    (hout : ∀ x ∈ c.exceptionTable.toList, covers x (pc + 10) = false)
    (hRframes : names.length + 3 < R.frames) (hRlocals : (rest.map fun v => v.category).sum + (13 * (names.length + 1) + 43) ≤ R.locals) (hRcells : cells + 1 ≤ R.cells) (hRslots : slots + 6 ≤ R.slots) (hlocks : meth.locks = false)
    (hx : ∀ t : State, s.vm.Alike t.vm → H.size ≤ t.heap.size → (∀ q : Nat, q < H.size → t.heap[q]? = H[q]?) → XC cls s t)
    (hf : ∀ z ∈ locs, free z.base) (hc : cells + 1 ≤ mc) (hs : slots + 6 ≤ ms) :
    W p l e R s m args below meth c H locs cells slots (vx_MQ below Qc XC args s mc ms free) (F0 m pc ls rest) := by
  intro T hT X
  have htr : e.platform.stackTraces = false := (show e.platform.stackTraces = l.stackTraces by rw [X.admits.platform]).trans hl
  have Y := vx_rebase X (R' := { frames := R.frames, locals := R.locals, cells := 1, slots := 6 }) (Nat.le_refl _) (Nat.le_refl _) hRcells hRslots
  obtain ⟨s', hA⟩ : ∃ z, z = (T.setVm s.vm).setFrames (.invoking m args :: below) := ⟨_, rfl⟩
  rw [← hA] at Y
  have hvm : s'.vm = s.vm := by rw [hA]; rfl
  have hhp : s'.heap = H := by rw [hA]; exact hT
  have hW0 : s.WarmedH s'.vm := by rw [hvm]; exact State.WarmedH.refl s
  have hat' : ∀ w ∈ vx_atS own ic cls names, w.before args s' = true := fun w hw => vx_ot_at hW0 hvm.symm (hgood w (List.mem_cons_of_mem _ (List.mem_cons_of_mem _ hw))) (hat w hw)
  have hk' : (Cond.classLink own ik cls).before args s' = true := vx_ot_at hW0 hvm.symm (hgood _ List.mem_cons_self) hk
  have hini' : (Cond.initialized cls).before args s' = true := vx_ot_at hW0 hvm.symm (hgood _ (List.mem_cons_of_mem _ List.mem_cons_self)) hini
  have hU' : vx_Zq Bundle.tN "UNASSIGNED_STACK" Bundle.steD A s' s'.heap := by rw [hhp]; exact vx_Zq.moved hW0.alike (hU.kept hS.2.1)
  have hN' : vx_Zq Bundle.tN "SUPPRESSED_SENTINEL" Bundle.listD A s' s'.heap := by rw [hhp]; exact vx_Zq.moved hW0.alike (hN.kept hS.2.1)
  have h : ∀ w ∈ Bundle.ownAtoms own ic cls names, w.before args s' = true := vx_own hat' (vx_isRefq hU'.1) (vx_isRefq hN'.1) hU'.2.word hN'.2.word
  have hown' : s'.vm.findClass own = some m.cls := by rw [hvm]; exact hown
  have hins : (Cond.instantiable cls 6).before args s' = true := h _ (by simp [Bundle.ownAtoms])
  obtain ⟨vm₁, cX, kX, hfX, hkX, -, -, X₁, st1⟩ := Y.newCold hexec (own := own) (C := cls) (index := ik) (n := 6) hown' hk' hins hini'
    (g := F0 m pc ls rest) rfl (by rw [hb]; exact d0) (Nat.le_refl _) (Nat.le_refl _)
  generalize hT1 : (T.setVm vm₁).pushCell { cls := cX, slots := kX.instanceTypes.map defaultValue, vm := .none } = T1 at X₁ st1
  have hcat : (Value.ref T.heap.size).category = 1 := rfl
  have hcellA : T1.heap[T.heap.size]? = some (freshCell cX kX) := by rw [← hT1]; exact State.heap_pushCell_size _ _
  have d3' : decode c.code (pc + 3) = .ok (.dup, 1) := by rw [hb]; exact d3
  have d4' : decode c.code (pc + 4) = .ok (.ldc_w is, 3) := by rw [hb]; exact d4
  have hstr' : vk_R own is text sa s' := vk_R.warm hW0 hstr
  obtain ⟨U, hsteps, hrun, hend, hW, hsame, ce, hce, hO⟩ := X₁.ctorThrowS hexec htr (own := own) (cls := cls) (names := names) (ic := ic) hown' hcls hnames h (fun x hx => nomatch hx) hfX hkX hcellA (by rw [hhp, hT]; exact Nat.le_refl _) (msg := .ref sa) rfl
    (g := { method := m, pc := pc + 7, locals := ls, stack := .ref sa :: .ref T.heap.size :: .ref T.heap.size :: rest, locked := none }) rfl hsize rfl rfl (rest := rest) rfl
    (by rw [hb]; exact d7) (by rw [hb]; exact d10) hout hRframes (by simp only [List.map_cons, List.sum_cons, hcat]; omega) hlocks
  obtain ⟨f1, f2⟩ := vx_frame hsame
  rw [hhp] at f1 f2
  have hWs : s.WarmedH U.vm := State.WarmedH.trans hW0 hW
  have hcl : s.vm.findClass cls = some ce.cls := by
    have h9 := hO.cls
    rw [hvm] at h9
    exact h9
  have hall : s.sameButNew ({ U with vm := s.vm } : State) locs mc ms := by
    subst hA
    obtain ⟨e1, e2⟩ := hsame
    rw [State.setFrames_setFrames] at e1
    have h2 : (T.setVm s.vm).sameButNew ({ U with vm := s.vm } : State) [] (0 + 1) (0 + 6) := ⟨e1, e2⟩
    have h3 := X.same.trans h2
    rw [List.append_nil] at h3
    exact h3.mono hc hs
  refine ⟨U, ?_, .threw T.heap.size, hrun, hend, Or.inr ⟨T.heap.size, rfl, cls, ce, locs, hx U hWs.alike f1 (fun q hq => f2 q hq (fun z hz => nomatch hz)), hce, hO.vm, hcl, hWs, hall, hf⟩⟩
  refine st1 _ ?_
  show Steps p.tables e below (T1.setTop { method := m, pc := pc + 3, locals := ls, stack := .ref T.heap.size :: rest, locked := none }) _
  jvm_step X₁.here [X₁.here.top, hexec, d3', Value.category]
  exact X₁.ldcStringW hexec (own := own) (text := text) (index := is) (a := sa) hown' hstr'.1 hstr'.2
    (g := { method := m, pc := pc + 4, locals := ls, stack := .ref T.heap.size :: .ref T.heap.size :: rest, locked := none }) rfl d4' _ hsteps
end Ends
section Bodies
variable {l : Launch}
theorem vx_ofW {y : MethodName} {ws ws' : List Cond} {rm : Room} {Pc : Array Value → State → Prop} {Qc : Array Value → State → Outcome → State → Prop} {XC : String → State → State → Prop} {mc ms : Nat} {free : Addr → Prop} {cc : ByteArray} {maxL : Nat} {ret : Option FieldType}
    (hy : plainName y.cls = true) (hw : ws = Cond.code y cc maxL ret :: ws')
    (body : ∀ p e s m args below meth c s₁, BodyLoose p l y (headSpec ws rm) cc maxL ret e s m args below meth c s₁ → c.maxLocals = maxL → (∀ x ∈ c.exceptionTable.toList, False) → Pc args s →
      W p l e (headSpec ws rm).room s m args below meth c s.heap [] 0 0 (vx_MQ below Qc XC args s mc ms free) (entryFrame m args maxL)) : vx_Met l y ws rm Pc Qc XC mc ms free := by
  refine MetFree.of_bodyS (code := cc) (maxLocals := maxL) (ret := ret) hy ?_ ?_
  · intro args s m h hn
    obtain ⟨meth, c, h1, h2, h3, h4, h5, h6, -, -⟩ := Cond.code_spec hn (atoms_spec (ws := ws) h _ (by rw [hw]; exact List.mem_cons_self))
    exact ⟨meth, c, h1, h2, h3, h4, h5, h6⟩
  · intro p e s m args below meth c s₁ B hml hP _
    have hh0 : s₁.heap = s.heap := by rw [B.state]; rfl
    have ht : ∀ x ∈ c.exceptionTable.toList, False := by
      obtain ⟨meth9, c9, h1, h2, -, -, -, -, h7, -⟩ := Cond.code_spec B.named (atoms_spec (ws := ws) B.pre _ (by rw [hw]; exact List.mem_cons_self))
      cases Option.some.inj (h1.symm.trans B.method)
      cases Option.some.inj (h2.symm.trans (Stand.of_body B).code)
      intro x hx
      rw [Array.isEmpty_iff.mp h7] at hx
      cases hx
    obtain ⟨t, a1, o, b1, b2, b3⟩ := body p e s m args below meth c s₁ B hml ht hP s₁ hh0 (Stand.of_body B)
    exact ⟨t, o, a1, b1, b2, b3⟩
/-- the table of a body with handlers -/
theorem vx_table {p : Program} {x y : MethodName} {S : Spec} {cc bytes : ByteArray} {maxL maxL' : Nat} {ret ret' : Option FieldType} {e : Env} {s s₁ : State} {m : MethodId} {args : Array Value} {below : List Frame} {meth : Method} {c : Code} {hh : List (Nat × Nat × Nat × Nat)}
    (B : BodyLoose p l y S cc maxL ret e s m args below meth c s₁) (h : (Cond.codeWith y bytes maxL' ret' hh).before args s = true) : c.exceptionTable.toList = tableOf hh := by
  obtain ⟨m9, meth9, c9, hn9, h1, h2, -, -, h6, -⟩ := Cond.codeWith_spec h
  cases Option.some.inj (hn9.symm.trans B.named)
  cases Option.some.inj (h1.symm.trans B.method)
  cases Option.some.inj (h2.symm.trans (Stand.of_body B).code)
  rw [← h6, table_eq]
end Bodies
end VXA
/-! ===== END ===== -/
/-! ===== BEGIN a static call of a method with an exception table ===== -/
section VXS
variable {p : Program} {l : Launch} {e : Env} {R : Room} {s : State} {m : MethodId} {args : Array Value} {below : List Frame} {meth : Method} {c : Code} {T : State} {H : Heap} {locs : List Loc} {cells slots : Nat}
abbrev vx_CSW (R : Room) (s : State) (args : Array Value) (own : String) (index : Nat) (y : MethodName) (bytes : ByteArray) (maxL : Nat) (ret : Option FieldType) (hh : List (Nat × Nat × Nat × Nat)) (ws : List Cond) (rm : Room) (mc ms n : Nat) : Prop :=
  (rm.cells = mc ∧ rm.slots = ms ∧ rm.frames + 1 ≤ R.frames ∧ 8 + (maxL + 11) + rm.locals ≤ R.locals ∧ (∀ w ∈ ws, ∀ (a' : Array Value) (U : State), s.WarmedH U.vm → w.before a' U = true) ∧ Cond.codeWith y bytes maxL ret hh ∈ ws) ∧
  (Cond.codeWith y bytes maxL ret hh).before args s = true ∧ (Cond.initialized y.cls).before args s = true ∧ (y.cls ≠ "java/lang/invoke/MethodHandle" ∧ y.cls ≠ "java/lang/invoke/VarHandle") ∧
  (∀ sig, parseMethodDescriptor y.desc = some sig → n = sig.parameters.length) ∧ (Cond.methodLink own index y).before args s = true ∧ (Cond.static y).before args s = true
theorem vx_cwSW {own : String} {index maxL mc ms : Nat} {y : MethodName} {bytes : ByteArray} {ret : Option FieldType} {hh : List (Nat × Nat × Nat × Nat)} {Ts ws ws' : List Cond} {rm : Room} (n : Nat) (ht : ∀ w ∈ Ts, w.before args s = true) (hT : GoodIn Ts (va_wsS own index y ws)) (hw : ws = Cond.codeWith y bytes maxL ret hh :: ws') (hrc : rm.cells = mc) (hrs : rm.slots = ms)
    (hd : y.cls ≠ "java/lang/invoke/MethodHandle" ∧ y.cls ≠ "java/lang/invoke/VarHandle" ∧ (parseMethodDescriptor y.desc).map (fun d => d.parameters.length) = some n) (hR : rm.frames + 1 ≤ R.frames ∧ 8 + (maxL + 11) + rm.locals ≤ R.locals) :
    vx_CSW R s args own index y bytes maxL ret hh ws rm mc ms n := by
  have ok : ∀ w ∈ va_wsS own index y ws, w.before args s = true := fun w h => ht w (hT w h).1
  have hG : GoodIn Ts ws := fun w h => hT w (by unfold va_wsS; exact List.mem_append_right _ h)
  have hc : Cond.codeWith y bytes maxL ret hh ∈ ws := by rw [hw]; exact List.mem_cons_self
  refine ⟨⟨hrc, hrs, hR.1, hR.2, pay_in ht hG, hc⟩, ht _ (hG _ hc).1, ok _ (by simp [va_wsS]), ⟨hd.1, hd.2.1⟩, fun sig h => ?_, ok _ (by simp [va_wsS]), ok _ (by simp [va_wsS])⟩
  have h2 := hd.2.2
  rw [h] at h2
  exact (Option.some.inj h2).symm
theorem vx_callSW (X : Stand p l e R s m args below meth c T locs cells slots) (hexec : p.tables.exec = Jvm.exec) {own : String} {index : Nat} {y : MethodName} {bytes : ByteArray} {maxL : Nat} {ret : Option FieldType} {hh : List (Nat × Nat × Nat × Nat)}
    (hown : s.vm.findClass own = some m.cls) (hlink : (Cond.methodLink own index y).before args s = true) (hstat : (Cond.static y).before args s = true) (hinit : (Cond.initialized y.cls).before args s = true)
    (hcode : (Cond.codeWith y bytes maxL ret hh).before args s = true) (hy : y.cls ≠ "java/lang/invoke/MethodHandle" ∧ y.cls ≠ "java/lang/invoke/VarHandle")
    {W9 : Nat} {Pre : Pt → Array Value → Prop} {Post : Pt → Array Value → Option Value → Pt → Prop} (hK : Back l R p e below s args y 3 W9 Pre Post)
    {g : JFrame} (hg : g.method = m) (hsize : g.locals.size = c.maxLocals) {argsL rest : List Value} (hlen : ∀ sig, parseMethodDescriptor y.desc = some sig → argsL.length = sig.parameters.length)
    (hstack : g.stack = argsL.reverse ++ rest) (hW : 2 * g.monitorRoom + (rest.map fun v => v.category).sum ≤ W9) (hdg : decode c.code g.pc = .ok (.invokestatic index, 3))
    (hpre : ∀ vm₁, s.WarmedH vm₁ → Pre ⟨T.setVm vm₁, locs, cells, slots⟩ argsL.toArray) :
    ∃ (v : Option Value) (vm₁ : Vm) (B : Pt), s.WarmedH vm₁ ∧ Stand p l e R s m args below meth c B.U B.locs B.cells B.slots ∧ Post ⟨T.setVm vm₁, locs, cells, slots⟩ argsL.toArray v B ∧
      ∀ target, Steps p.tables e below (B.U.setTop { g with pc := g.pc + 3, stack := v.toList ++ rest }) target → Steps p.tables e below (T.setTop g) target := by
  obtain ⟨mk, methM, cM, hnamed, hmethM, -, -, -, -, -, -, hsigM⟩ := Cond.codeWith_spec hcode
  have hstatic : methM.isStatic = true := Cond.static_spec hnamed hmethM hstat
  obtain ⟨kP, hkP, -⟩ := className_of_methodNamed hnamed
  have hinitP : kP.init = .initialized := Cond.initialized_spec (findClass_of_methodNamed hnamed) hkP hinit
  obtain ⟨vm₁, X₁, hstep₁⟩ := X.invokestatic hexec hown hlink hnamed hmethM hstatic hkP hinitP hy (g := g) hg (argsL := argsL) (rest := rest) (hlen _ hsigM) hstack hdg
  obtain ⟨v, B, X', hpost, hsteps⟩ := hK m meth c ⟨T.setVm vm₁, locs, cells, slots⟩ { g with stack := rest } (.invokestatic index) mk argsL.toArray X₁ hg hsize hdg hW (X₁.named hnamed) (hpre vm₁ X₁.warmed)
  exact ⟨v, vm₁, B, X₁.warmed, X', hpost, fun target h => hstep₁ _ fun acts => by rw [doInvoke_state]; exact hsteps.trans h⟩
theorem vx_runSW {y : MethodName} {bytes cc : ByteArray} {maxL nL mc ms n index : Nat} {ret : Option FieldType} {hh : List (Nat × Nat × Nat × Nat)} {ws : List Cond} {rm : Room} {Pc : Array Value → State → Prop} {Qc : Array Value → State → Outcome → State → Prop} {free : Addr → Prop} {Ts : List Cond} {own : String} {As rest : List Value} {g : JFrame}
    (S : CallFix p m c cc nL s args Ts own) (hM : Met l y ws rm Pc Qc mc ms free) (cw : vx_CSW R s args own index y bytes maxL ret hh ws rm mc ms n) (hp : PreS s H Pc As)
    (hg : g.method = m) (hn : As.length = n) (hsize : g.locals.size = nL) (hstack : g.stack = As.reverse ++ rest) (hW : 2 * g.monitorRoom + (rest.map fun v => v.category).sum ≤ 8) (hdg : decode cc g.pc = .ok (.invokestatic index, 3)) (hf : cells + mc ≤ R.cells ∧ slots + ms ≤ R.slots) :
    va_Run p l e R s m args below meth c H locs cells slots mc ms g rest (Qc As.toArray) (free) := by
  obtain ⟨⟨hrc, hrs, hfr, hlo, hws, hcw⟩, hcode, hini, hy, hlen, hl, hstt⟩ := cw
  have hK : Back l R p e below s args y 3 8 (PreOf R mc ms Pc) (PostOf Qc mc ms free) := va_backW (hh := hh) (bytes := bytes) (maxL := maxL) (ret := ret) hM hp.1 hrc hrs hfr hlo hws hcw (fun a' U hW => word_at hW (Or.inl (by first | rfl | simp [Cond.onTables, Cond.keeps, Cond.steady])) hini)
  obtain ⟨hx, hb, hml, ho, -⟩ := S
  intro T hT X
  obtain ⟨v, vm₁, ⟨U', l2, c2, s2⟩, hW₁, X', ⟨g', mk, t, L, e1, e2, hq, h1, hL, h2, h3⟩, st⟩ := vx_callSW X hx (hh := hh) (bytes := bytes) (maxL := maxL) (ret := ret) ho hl hstt hini hcode hy hK hg (hsize.trans hml.symm) (argsL := As) (rest := rest) (fun sig h => hn.trans (hlen sig h)) hstack hW (by rw [hb]; exact hdg)
    (fun vm₁ hW₁ => ⟨hf.1, hf.2, hp.2 (T.setVm vm₁) hT hW₁⟩)
  dsimp only [Pt.U, Pt.locs, Pt.cells, Pt.slots] at X' e1 e2 h1 h2 h3 st
  subst h1; subst h2; subst h3
  exact ⟨v, (T.setVm vm₁).calling g' mk As.toArray, t, U', L, hT, X', hL, e1, e2, hq, st⟩
/-- not caught here, past rows that name other classes: it goes on to the caller -/
theorem vx_outP {p : Program} {l : Launch} {e : Env} {R : Room} {s : State} {m : MethodId} {args : Array Value} {below : List Frame} {meth : Method} {c : Code} {H : Heap} {locs : List Loc} {cells slots : Nat} {free : Addr → Prop} {ls : Array Slot} {rest : List Value} {Qc : Array Value → State → Outcome → State → Prop} {XC : String → State → State → Prop}
    {pc : Nat} {own E : String} {ce : Cell} {q : Addr} {mc ms : Nat} (hown : s.vm.findClass own = some m.cls) (hlocks : meth.locks = false)
    (hpass : ∀ z ∈ c.exceptionTable.toList, covers z pc = false ∨ (z.catchType ≠ 0 ∧ ∃ nm : String, (Cond.classLink own z.catchType nm).before args s = true ∧ va_Nc E nm s)) (hcell : H[q]? = some ce) (hv : ce.vm = .none) (hcl : s.vm.findClass E = some ce.cls)
    (hx : ∀ t : State, t.heap = H → s.vm.Alike t.vm → XC E s t) (hf : ∀ z ∈ locs, free z.base) (hc : cells ≤ mc) (hs : slots ≤ ms) :
    vx_W p l e R s m args below meth c H locs cells slots (vx_MQ below Qc XC args s mc ms free) (F0 m pc ls rest) q := by
  intro T hT X
  have hpl : e.platform.magicAccessors = ({} : Platform).magicAccessors := by rw [X.admits.platform]
  obtain ⟨vm', hW', X', st⟩ := X.outThrough hlocks q (g := F0 m pc ls rest) rfl rfl rfl (cell := ce) (by rw [hT]; exact hcell) (by rw [hv]; rfl)
    (by obtain ⟨k9, h9, -⟩ := Vm.findClass_spec hcl; exact ⟨k9, h9⟩) (fun z hz => by
      rcases hpass z hz with h | ⟨hz0, nm, hl1, hn1⟩
      · exact Or.inl h
      · obtain ⟨c6, hc6, hcl6⟩ := Cond.classLink_spec hown hl1 e.platform hpl
        obtain ⟨a8, b8, h1, h2, h3⟩ := hn1
        cases Option.some.inj (h1.symm.trans hcl)
        cases Option.some.inj (h2.symm.trans hc6)
        exact Or.inr ⟨hz0, _, hcl6, h3⟩)
  obtain ⟨g₀, hfr⟩ := X'.frames_eq
  have hcell9 : ((T.setVm vm').setFrames (.throwing q :: below)).heap[q]? = some ce := by
    show T.heap[q]? = some ce
    rw [hT]; exact hcell
  have hend : Ended ((T.setVm vm').setFrames (.throwing q :: below)) below (.threw q) := State.frames_setFrames _ (State.cur_lt_of_frames hfr)
  refine ⟨(T.setVm vm').setFrames (.throwing q :: below), ?_, .threw q, X'.here.running, hend, Or.inr ⟨q, rfl, E, ce, locs, hx _ hT (X'.ends _).1.alike, hcell9, hv, hcl, (X'.ends _).1, (X'.ends _).2.mono hc hs, hf⟩⟩
  rw [X.pushThrowing_eq]
  exact st
/-- a thing of a world lies in the heap -/
theorem vx_lt {D : va_G} {cl : List vw_C} {ws : va_W} {H1 : Heap} (h : va_P D cl ws H1) {k : Nat} {q : Nat × va_E} (hk : ws[k]? = some q) : q.1 < H1.size := (h k q hk).lt
end VXS
/-! ===== END ===== -/
/-! ===== BEGIN methods with a table of their own: called by a name, returning or throwing ===== -/
section VXH
section
variable {l : Launch} {R : Room} {p : Program} {e : Env} {below : List Frame} {s : State} {sargs : Array Value} {y : MethodName} {len W9 : Nat}
theorem vx_backW {ws : List Cond} {rm : Room} {Pc : Array Value → State → Prop} {Qc : Array Value → State → Outcome → State → Prop} {XC : String → State → State → Prop} {mc ms : Nat} {free : Addr → Prop} {bytes : ByteArray} {maxL : Nat} {ret : Option FieldType} {hh : List (Nat × Nat × Nat × Nat)}
    (hM : vx_Met l y ws rm Pc Qc XC mc ms free) (hblind : FrameBlind Pc) (hrc : rm.cells = mc) (hrs : rm.slots = ms)
    (hframes : rm.frames + 1 ≤ R.frames) (hlocals : W9 + (maxL + 11) + rm.locals ≤ R.locals)
    (hws : ∀ w ∈ ws, ∀ a' U, s.WarmedH U.vm → w.before a' U = true) (hcode : Cond.codeWith y bytes maxL ret hh ∈ ws) (hinit : ∀ a' U, s.WarmedH U.vm → (Cond.initialized y.cls).before a' U = true) :
    vx_Back l R p e below s sargs y len W9 (PreOf R mc ms Pc) (PostOf Qc mc ms free) (vx_Post XC mc ms free) := by
  intro m meth c A g ig mk a X hg hsize hdg hW hn hp
  have h1 : (headSpec ws rm).pre.before a A.U = true := atoms_intro fun w hw => hws w hw _ _ X.warmed
  have h2 : (Cond.codeWith y bytes maxL ret hh).before a A.U = true := hws _ hcode _ _ X.warmed
  have h3 : (Cond.initialized y.cls).before a A.U = true := hinit _ _ X.warmed
  have h4 : A.cells + (headSpec ws rm).room.cells ≤ R.cells := by rw [show (headSpec ws rm).room.cells = mc from hrc]; exact hp.1
  have h5 : A.slots + (headSpec ws rm).room.slots ≤ R.slots := by rw [show (headSpec ws rm).room.slots = ms from hrs]; exact hp.2.1
  have hPc : Pc a (A.U.calling g mk a) := hblind _ _ _ _ hp.2.2
  obtain ⟨U, Ls, c0, s0⟩ := A
  dsimp only [Pt.U, Pt.locs, Pt.cells, Pt.slots] at h1 h2 h3 h4 h5 X hn hPc ⊢
  obtain ⟨m9, methY, cY, hn9, hmY, hcY, -, hlY, -⟩ := Cond.codeWith_spec h2
  cases Option.some.inj (hn9.symm.trans hn)
  obtain ⟨kY, hkY, -⟩ := className_of_methodNamed hn
  have hinitY : kY.init = .initialized := Cond.initialized_spec (findClass_of_methodNamed hn) hkY h3
  have h : At U g.method c below := by rw [hg]; exact X.here
  have hlocals9 : W9 + (maxL + 11) + (headSpec ws rm).room.locals ≤ R.locals := hlocals
  have happ : (headSpec ws rm).appliesLoose y e.platform (U.calling g mk a) = true :=
    Spec.appliesLoose_calling (g := g) h hdg hn hkY hinitY
      (X.room_calling (g := g) (R' := (headSpec ws rm).room) hsize hmY hcY hframes (by rw [hlY]; omega) h4 h5) h1
  obtain ⟨mid, hmid⟩ := h.above
  have hfr : (U.setTop g).frames = (.java g :: mid) ++ below := by rw [State.frames_setTop' g h.top, hmid]; rfl
  obtain ⟨o, s₂, hsteps, -, hend, hq⟩ := Steps.callFree hM p X.admits X.cas X.clock (acts := []) hfr happ hPc trivial
  have hq' : vx_Q Qc XC mc ms free a (U.calling g mk a) o s₂ := hq
  rw [State.frames_setTop' g h.top] at hend
  obtain ⟨g₀, hg0⟩ := Option.isSome_iff_exists.mp h.top
  obtain ⟨r, hr⟩ := State.topJava?_eq_some.mp hg0
  have hr' : (({ U with heap := s₂.heap, slotsUsed := s₂.slotsUsed } : State).setVm s₂.vm).frames = .java g₀ :: r := hr
  rcases hq' with ⟨hqc, L, hfe, hL⟩ | ⟨q, rfl, E, ce, L, hx, hce, hcv, hcl, hW₂, hsm, hL⟩
  · obtain ⟨⟨v, rfl⟩, hW₂, e2, q2, q3, q4, q5, q6⟩ := id hfe
    have e3 : s₂ = ({ (U.calling g mk a).setFrames s₂.frames with heap := s₂.heap, slotsUsed := s₂.slotsUsed } : State).setVm s₂.vm := by
      have : s₂ = ({ s₂ with vm := (U.calling g mk a).vm } : State).setVm s₂.vm := rfl
      rw [e2] at this
      exact this
    obtain ⟨c₂, i₂, len₂, hc₂, hd₂, hf₂⟩ := hend
    have hW' : U.WarmedH s₂.vm := hW₂
    have hcc : c₂ = c := by
      have h1 : s₂.code? g.method = U.code? g.method := by
        rw [State.code?_eq, State.code?_eq, hW'.alike.method?]
      exact Option.some.inj (hc₂.symm.trans (h1.trans h.code))
    subst hcc
    have hlen : len₂ = len := by rw [hdg] at hd₂; cases hd₂; rfl
    subst hlen
    have hs₂ : s₂ = (({ U with heap := s₂.heap, slotsUsed := s₂.slotsUsed } : State).setVm s₂.vm).setTop { g with pc := g.pc + len₂, stack := v.toList ++ g.stack } := by
      refine e3.trans ?_
      rw [hf₂, State.calling_eq h.top, State.setFrames_setFrames, State.setTop_of_frames _ hr', hr]
      rfl
    have hsame : U.sameButNew ({ U with heap := s₂.heap, slotsUsed := s₂.slotsUsed } : State) L mc ms := by
      refine ⟨?_, q2, q3, q4, q5, q6⟩
      obtain ⟨t, ht, -⟩ := State.frames_cons hr
      show ({ U with heap := s₂.heap, slotsUsed := s₂.slotsUsed } : State) = { U.setFrames U.frames with heap := s₂.heap, slotsUsed := s₂.slotsUsed }
      rw [State.setFrames_self ht]
    subst hg
    refine Or.inl ⟨v, ⟨(({ U with heap := s₂.heap, slotsUsed := s₂.slotsUsed } : State).setVm s₂.vm), Ls ++ L, c0 + mc, s0 + ms⟩,
      ⟨X.admits, X.cas, X.clock, X.frames, X.room, X.hears, X.method, X.code, (X.here.setHeapUsed s₂.heap s₂.slotsUsed).setVm hW'.alike, X.tail, State.WarmedH.trans X.warmed hW', X.limits, X.bytes, X.same.trans (hsame.setVm s.vm)⟩,
      ⟨g, mk, s₂, L, rfl, rfl, hqc, rfl, hL, rfl, rfl⟩, ?_⟩
    show Steps p.tables e below _ ((({ U with heap := s₂.heap, slotsUsed := s₂.slotsUsed } : State).setVm s₂.vm).setTop { g with pc := g.pc + len₂, stack := v.toList ++ g.stack })
    rw [← hs₂]
    exact hsteps
  · obtain ⟨e2, q2, q3, q4, q5, q6⟩ := id hsm
    have e3 : s₂ = ({ (U.calling g mk a).setFrames s₂.frames with heap := s₂.heap, slotsUsed := s₂.slotsUsed } : State).setVm s₂.vm := by
      have : s₂ = ({ s₂ with vm := (U.calling g mk a).vm } : State).setVm s₂.vm := rfl
      rw [e2] at this
      exact this
    have hf₂ : s₂.frames = .throwing q :: .java g :: U.frames.tail := hend
    have hW' : U.WarmedH s₂.vm := hW₂
    have hs₂ : s₂ = ((({ U with heap := s₂.heap, slotsUsed := s₂.slotsUsed } : State).setVm s₂.vm).setTop g).pushFrame (.throwing q) := by
      refine e3.trans ?_
      rw [hf₂, State.calling_eq h.top, State.setFrames_setFrames, State.pushFrame, State.frames_setTop _ hr', State.setTop_of_frames _ hr', State.setFrames_setFrames, hr]
      rfl
    have hsame : U.sameButNew ({ U with heap := s₂.heap, slotsUsed := s₂.slotsUsed } : State) L mc ms := by
      refine ⟨?_, q2, q3, q4, q5, q6⟩
      obtain ⟨t, ht, -⟩ := State.frames_cons hr
      show ({ U with heap := s₂.heap, slotsUsed := s₂.slotsUsed } : State) = { U.setFrames U.frames with heap := s₂.heap, slotsUsed := s₂.slotsUsed }
      rw [State.setFrames_self ht]
    subst hg
    refine Or.inr ⟨q, ⟨(({ U with heap := s₂.heap, slotsUsed := s₂.slotsUsed } : State).setVm s₂.vm), Ls ++ L, c0 + mc, s0 + ms⟩,
      ⟨X.admits, X.cas, X.clock, X.frames, X.room, X.hears, X.method, X.code, (X.here.setHeapUsed s₂.heap s₂.slotsUsed).setVm hW'.alike, X.tail, State.WarmedH.trans X.warmed hW', X.limits, X.bytes, X.same.trans (hsame.setVm s.vm)⟩,
      ⟨g, mk, s₂, L, E, ce, rfl, rfl, hx, hce, hcv, hcl, rfl, hL, rfl, rfl⟩, ?_⟩
    show Steps p.tables e below _ (((({ U with heap := s₂.heap, slotsUsed := s₂.slotsUsed } : State).setVm s₂.vm).setTop g).pushFrame (.throwing q))
    rw [← hs₂]
    exact hsteps
end
variable {p : Program} {l : Launch} {e : Env} {R : Room} {s : State} {m : MethodId} {args : Array Value} {below : List Frame} {meth : Method} {c : Code} {T : State} {H : Heap} {locs : List Loc} {cells slots : Nat}
theorem vx_callVX (X : Stand p l e R s m args below meth c T locs cells slots) (hexec : p.tables.exec = Jvm.exec) {own C : String} {index : Nat} {y : MethodName} {bytes : ByteArray} {maxL : Nat} {ret : Option FieldType} {hh : List (Nat × Nat × Nat × Nat)}
    (hown : s.vm.findClass own = some m.cls) (hlink : (Cond.methodLink own index y).before args s = true) (hinst : (Cond.instanceMethod y).before args s = true) (hsel : (Cond.selects C y y).before args s = true)
    (hcode : (Cond.codeWith y bytes maxL ret hh).before args s = true) (hy : y.cls ≠ "java/lang/invoke/MethodHandle" ∧ y.cls ≠ "java/lang/invoke/VarHandle")
    {W9 : Nat} {Pre : Pt → Array Value → Prop} {Post : Pt → Array Value → Option Value → Pt → Prop} {PostX : Pt → Array Value → Addr → Pt → Prop} (hK : vx_Back l R p e below s args y 3 W9 Pre Post PostX)
    {b : Addr} {cellB : Cell} (hcell : T.heap[b]? = some cellB) (hobj : cellB.vm.isStatics = false) (hcls : s.vm.findClass C = some cellB.cls)
    {g : JFrame} (hg : g.method = m) (hsize : g.locals.size = c.maxLocals) {argsL rest : List Value} (hlen : ∀ sig, parseMethodDescriptor y.desc = some sig → argsL.length = sig.parameters.length)
    (hstack : g.stack = argsL.reverse ++ .ref b :: rest) (hW : 2 * g.monitorRoom + (rest.map fun v => v.category).sum ≤ W9) (hdg : decode c.code g.pc = .ok (.invokevirtual index, 3))
    (hpre : ∀ vm₁, s.WarmedH vm₁ → Pre ⟨T.setVm vm₁, locs, cells, slots⟩ (Value.ref b :: argsL).toArray) :
    (∃ (v : Option Value) (vm₁ : Vm) (B : Pt), s.WarmedH vm₁ ∧ Stand p l e R s m args below meth c B.U B.locs B.cells B.slots ∧ Post ⟨T.setVm vm₁, locs, cells, slots⟩ (Value.ref b :: argsL).toArray v B ∧
      ∀ target, Steps p.tables e below (B.U.setTop { g with pc := g.pc + 3, stack := v.toList ++ rest }) target → Steps p.tables e below (T.setTop g) target) ∨
    (∃ (q : Addr) (vm₁ : Vm) (B : Pt), s.WarmedH vm₁ ∧ Stand p l e R s m args below meth c B.U B.locs B.cells B.slots ∧ PostX ⟨T.setVm vm₁, locs, cells, slots⟩ (Value.ref b :: argsL).toArray q B ∧
      Steps p.tables e below (T.setTop g) ((B.U.setTop { g with stack := rest }).pushFrame (.throwing q))) := by
  obtain ⟨mk, methM, hnamed, hmethM, hstM, habM⟩ := Cond.instanceMethod_spec hinst
  obtain ⟨m8, methM', cM, hn8, hmethM', -, -, -, -, -, -, hsigM⟩ := Cond.codeWith_spec hcode
  cases Option.some.inj (hn8.symm.trans hnamed)
  cases hmethM.symm.trans hmethM'
  obtain ⟨c2, r2, m2, q1, q2, q3, q4, kP, hkP, hkPi⟩ := Cond.selects_spec hsel
  cases hcls.symm.trans q1
  cases (State.methodFound?_of_named hnamed hy).symm.trans q2
  cases hnamed.symm.trans q3
  have hselP : selectMethod e.platform s.vm cellB.cls mk = .method mk := by rw [Launch.admits_selectMethod X.admits]; exact q4
  obtain ⟨vm₁, X₁, hstep₁⟩ := X.invokevirtual hexec hown hlink hnamed hmethM hstM hkP hkPi hy (a := b) (cell := cellB) hcell
    (fun z h => by rw [h] at hobj; cases hobj) hselP hmethM habM hkP hkPi (g := g) hg (argsL := argsL) (rest := rest) (hlen _ hsigM) hstack hdg
  rcases hK m meth c ⟨T.setVm vm₁, locs, cells, slots⟩ { g with stack := rest } (.invokevirtual index) mk (Value.ref b :: argsL).toArray X₁ hg hsize hdg hW (X₁.named hnamed) (hpre vm₁ X₁.warmed) with ⟨v, B, X', hpost, hsteps⟩ | ⟨q, B, X', hpost, hsteps⟩
  · exact Or.inl ⟨v, vm₁, B, X₁.warmed, X', hpost, fun target h => hstep₁ _ fun acts => by rw [doInvoke_state]; exact hsteps.trans h⟩
  · exact Or.inr ⟨q, vm₁, B, X₁.warmed, X', hpost, hstep₁ _ fun acts => by rw [doInvoke_state]; exact hsteps⟩
theorem vx_callSX (X : Stand p l e R s m args below meth c T locs cells slots) (hexec : p.tables.exec = Jvm.exec) {own : String} {index : Nat} {y : MethodName} {bytes : ByteArray} {maxL : Nat} {ret : Option FieldType} {hh : List (Nat × Nat × Nat × Nat)}
    (hown : s.vm.findClass own = some m.cls) (hlink : (Cond.methodLink own index y).before args s = true) (hstat : (Cond.static y).before args s = true) (hinit : (Cond.initialized y.cls).before args s = true)
    (hcode : (Cond.codeWith y bytes maxL ret hh).before args s = true) (hy : y.cls ≠ "java/lang/invoke/MethodHandle" ∧ y.cls ≠ "java/lang/invoke/VarHandle")
    {W9 : Nat} {Pre : Pt → Array Value → Prop} {Post : Pt → Array Value → Option Value → Pt → Prop} {PostX : Pt → Array Value → Addr → Pt → Prop} (hK : vx_Back l R p e below s args y 3 W9 Pre Post PostX)
    {g : JFrame} (hg : g.method = m) (hsize : g.locals.size = c.maxLocals) {argsL rest : List Value} (hlen : ∀ sig, parseMethodDescriptor y.desc = some sig → argsL.length = sig.parameters.length)
    (hstack : g.stack = argsL.reverse ++ rest) (hW : 2 * g.monitorRoom + (rest.map fun v => v.category).sum ≤ W9) (hdg : decode c.code g.pc = .ok (.invokestatic index, 3))
    (hpre : ∀ vm₁, s.WarmedH vm₁ → Pre ⟨T.setVm vm₁, locs, cells, slots⟩ argsL.toArray) :
    (∃ (v : Option Value) (vm₁ : Vm) (B : Pt), s.WarmedH vm₁ ∧ Stand p l e R s m args below meth c B.U B.locs B.cells B.slots ∧ Post ⟨T.setVm vm₁, locs, cells, slots⟩ argsL.toArray v B ∧
      ∀ target, Steps p.tables e below (B.U.setTop { g with pc := g.pc + 3, stack := v.toList ++ rest }) target → Steps p.tables e below (T.setTop g) target) ∨
    (∃ (q : Addr) (vm₁ : Vm) (B : Pt), s.WarmedH vm₁ ∧ Stand p l e R s m args below meth c B.U B.locs B.cells B.slots ∧ PostX ⟨T.setVm vm₁, locs, cells, slots⟩ argsL.toArray q B ∧
      Steps p.tables e below (T.setTop g) ((B.U.setTop { g with stack := rest }).pushFrame (.throwing q))) := by
  obtain ⟨mk, methM, cM, hnamed, hmethM, -, -, -, -, -, -, hsigM⟩ := Cond.codeWith_spec hcode
  have hstatic : methM.isStatic = true := Cond.static_spec hnamed hmethM hstat
  obtain ⟨kP, hkP, -⟩ := className_of_methodNamed hnamed
  have hinitP : kP.init = .initialized := Cond.initialized_spec (findClass_of_methodNamed hnamed) hkP hinit
  obtain ⟨vm₁, X₁, hstep₁⟩ := X.invokestatic hexec hown hlink hnamed hmethM hstatic hkP hinitP hy (g := g) hg (argsL := argsL) (rest := rest) (hlen _ hsigM) hstack hdg
  rcases hK m meth c ⟨T.setVm vm₁, locs, cells, slots⟩ { g with stack := rest } (.invokestatic index) mk argsL.toArray X₁ hg hsize hdg hW (X₁.named hnamed) (hpre vm₁ X₁.warmed) with ⟨v, B, X', hpost, hsteps⟩ | ⟨q, B, X', hpost, hsteps⟩
  · exact Or.inl ⟨v, vm₁, B, X₁.warmed, X', hpost, fun target h => hstep₁ _ fun acts => by rw [doInvoke_state]; exact hsteps.trans h⟩
  · exact Or.inr ⟨q, vm₁, B, X₁.warmed, X', hpost, hstep₁ _ fun acts => by rw [doInvoke_state]; exact hsteps⟩
theorem vx_callVW (X : Stand p l e R s m args below meth c T locs cells slots) (hexec : p.tables.exec = Jvm.exec) {own C : String} {index : Nat} {y : MethodName} {bytes : ByteArray} {maxL : Nat} {ret : Option FieldType} {hh : List (Nat × Nat × Nat × Nat)}
    (hown : s.vm.findClass own = some m.cls) (hlink : (Cond.methodLink own index y).before args s = true) (hinst : (Cond.instanceMethod y).before args s = true) (hsel : (Cond.selects C y y).before args s = true)
    (hcode : (Cond.codeWith y bytes maxL ret hh).before args s = true) (hy : y.cls ≠ "java/lang/invoke/MethodHandle" ∧ y.cls ≠ "java/lang/invoke/VarHandle")
    {W9 : Nat} {Pre : Pt → Array Value → Prop} {Post : Pt → Array Value → Option Value → Pt → Prop} (hK : Back l R p e below s args y 3 W9 Pre Post)
    {b : Addr} {cellB : Cell} (hcell : T.heap[b]? = some cellB) (hobj : cellB.vm.isStatics = false) (hcls : s.vm.findClass C = some cellB.cls)
    {g : JFrame} (hg : g.method = m) (hsize : g.locals.size = c.maxLocals) {argsL rest : List Value} (hlen : ∀ sig, parseMethodDescriptor y.desc = some sig → argsL.length = sig.parameters.length)
    (hstack : g.stack = argsL.reverse ++ .ref b :: rest) (hW : 2 * g.monitorRoom + (rest.map fun v => v.category).sum ≤ W9) (hdg : decode c.code g.pc = .ok (.invokevirtual index, 3))
    (hpre : ∀ vm₁, s.WarmedH vm₁ → Pre ⟨T.setVm vm₁, locs, cells, slots⟩ (Value.ref b :: argsL).toArray) :
    ∃ (v : Option Value) (vm₁ : Vm) (B : Pt), s.WarmedH vm₁ ∧ Stand p l e R s m args below meth c B.U B.locs B.cells B.slots ∧ Post ⟨T.setVm vm₁, locs, cells, slots⟩ (Value.ref b :: argsL).toArray v B ∧
      ∀ target, Steps p.tables e below (B.U.setTop { g with pc := g.pc + 3, stack := v.toList ++ rest }) target → Steps p.tables e below (T.setTop g) target := by
  obtain ⟨mk, methM, hnamed, hmethM, hstM, habM⟩ := Cond.instanceMethod_spec hinst
  obtain ⟨m8, methM', cM, hn8, hmethM', -, -, -, -, -, -, hsigM⟩ := Cond.codeWith_spec hcode
  cases Option.some.inj (hn8.symm.trans hnamed)
  cases hmethM.symm.trans hmethM'
  obtain ⟨c2, r2, m2, q1, q2, q3, q4, kP, hkP, hkPi⟩ := Cond.selects_spec hsel
  cases hcls.symm.trans q1
  cases (State.methodFound?_of_named hnamed hy).symm.trans q2
  cases hnamed.symm.trans q3
  have hselP : selectMethod e.platform s.vm cellB.cls mk = .method mk := by rw [Launch.admits_selectMethod X.admits]; exact q4
  obtain ⟨vm₁, X₁, hstep₁⟩ := X.invokevirtual hexec hown hlink hnamed hmethM hstM hkP hkPi hy (a := b) (cell := cellB) hcell
    (fun z h => by rw [h] at hobj; cases hobj) hselP hmethM habM hkP hkPi (g := g) hg (argsL := argsL) (rest := rest) (hlen _ hsigM) hstack hdg
  obtain ⟨v, B, X', hpost, hsteps⟩ := hK m meth c ⟨T.setVm vm₁, locs, cells, slots⟩ { g with stack := rest } (.invokevirtual index) mk (Value.ref b :: argsL).toArray X₁ hg hsize hdg hW (X₁.named hnamed) (hpre vm₁ X₁.warmed)
  exact ⟨v, vm₁, B, X₁.warmed, X', hpost, fun target h => hstep₁ _ fun acts => by rw [doInvoke_state]; exact hsteps.trans h⟩
abbrev vx_CVW (R : Room) (s : State) (args : Array Value) (own C : String) (index : Nat) (y : MethodName) (bytes : ByteArray) (maxL : Nat) (ret : Option FieldType) (hh : List (Nat × Nat × Nat × Nat)) (ws : List Cond) (rm : Room) (mc ms n : Nat) : Prop :=
  (rm.cells = mc ∧ rm.slots = ms ∧ rm.frames + 1 ≤ R.frames ∧ 8 + (maxL + 11) + rm.locals ≤ R.locals ∧ (∀ w ∈ ws, ∀ (a' : Array Value) (U : State), s.WarmedH U.vm → w.before a' U = true) ∧ Cond.codeWith y bytes maxL ret hh ∈ ws) ∧
  (Cond.codeWith y bytes maxL ret hh).before args s = true ∧ (Cond.initialized y.cls).before args s = true ∧ (y.cls ≠ "java/lang/invoke/MethodHandle" ∧ y.cls ≠ "java/lang/invoke/VarHandle") ∧
  (∀ sig, parseMethodDescriptor y.desc = some sig → n = sig.parameters.length) ∧ (Cond.methodLink own index y).before args s = true ∧ (Cond.instanceMethod y).before args s = true ∧ (Cond.selects C y y).before args s = true
theorem vx_cwVW {own C : String} {index maxL mc ms : Nat} {y : MethodName} {bytes : ByteArray} {ret : Option FieldType} {hh : List (Nat × Nat × Nat × Nat)} {Ts ws ws' : List Cond} {rm : Room} (n : Nat) (ht : ∀ w ∈ Ts, w.before args s = true) (hT : GoodIn Ts (wsV own index C y ws)) (hw : ws = Cond.codeWith y bytes maxL ret hh :: ws') (hrc : rm.cells = mc) (hrs : rm.slots = ms)
    (hd : y.cls = C ∧ y.cls ≠ "java/lang/invoke/MethodHandle" ∧ y.cls ≠ "java/lang/invoke/VarHandle" ∧ (parseMethodDescriptor y.desc).map (fun d => d.parameters.length) = some n) (hR : rm.frames + 1 ≤ R.frames ∧ 8 + (maxL + 11) + rm.locals ≤ R.locals) :
    vx_CVW R s args own C index y bytes maxL ret hh ws rm mc ms n := by
  obtain ⟨hC, hd⟩ := hd
  subst hC
  have ok : ∀ w ∈ wsV own index y.cls y ws, w.before args s = true := fun w h => ht w (hT w h).1
  have hG : GoodIn Ts ws := fun w h => hT w (by unfold wsV; exact List.mem_append_right _ h)
  have hc : Cond.codeWith y bytes maxL ret hh ∈ ws := by rw [hw]; exact List.mem_cons_self
  refine ⟨⟨hrc, hrs, hR.1, hR.2, pay_in ht hG, hc⟩, ht _ (hG _ hc).1, ok _ (by simp [wsV]), ⟨hd.1, hd.2.1⟩, fun sig h => ?_, ok _ (by simp [wsV]), ok _ (by simp [wsV]), ok _ (by simp [wsV])⟩
  have h2 := hd.2.2
  rw [h] at h2
  exact (Option.some.inj h2).symm
theorem vx_runVW {y : MethodName} {bytes cc : ByteArray} {maxL nL mc ms n index : Nat} {ret : Option FieldType} {hh : List (Nat × Nat × Nat × Nat)} {ws : List Cond} {rm : Room} {Pc : Array Value → State → Prop} {Qc : Array Value → State → Outcome → State → Prop} {free : Addr → Prop} {Ts : List Cond} {own C : String} {b : Addr} {As rest : List Value} {g : JFrame}
    (S : CallFix p m c cc nL s args Ts own) (hM : Met l y ws rm Pc Qc mc ms free) (cw : vx_CVW R s args own C index y bytes maxL ret hh ws rm mc ms n) (hp : PreV s H C b Pc As)
    (hg : g.method = m) (hn : As.length = n) (hsize : g.locals.size = nL) (hstack : g.stack = As.reverse ++ .ref b :: rest) (hW : 2 * g.monitorRoom + (rest.map fun v => v.category).sum ≤ 8) (hdg : decode cc g.pc = .ok (.invokevirtual index, 3)) (hf : cells + mc ≤ R.cells ∧ slots + ms ≤ R.slots) :
    va_Run p l e R s m args below meth c H locs cells slots mc ms g rest (Qc (Value.ref b :: As).toArray) free := by
  obtain ⟨⟨hrc, hrs, hfr, hlo, hws, hcw⟩, hcode, hini, hy, hlen, hl, hin, hse⟩ := cw
  have hK : Back l R p e below s args y 3 8 (PreOf R mc ms Pc) (PostOf Qc mc ms free) := va_backW (hh := hh) (bytes := bytes) (maxL := maxL) (ret := ret) hM hp.1 hrc hrs hfr hlo hws hcw (fun a' U hW => word_at hW (Or.inl (by first | rfl | simp [Cond.onTables, Cond.keeps, Cond.steady])) hini)
  obtain ⟨hx, hb, hml, ho, -⟩ := S
  obtain ⟨-, ⟨cellB, hcB, hoB, hclB⟩, hPc⟩ := hp
  intro T hT X
  obtain ⟨v, vm₁, ⟨U', l2, c2, s2⟩, hW₁, X', ⟨g', mk, t, L, e1, e2, hq, h1, hL, h2, h3⟩, st⟩ := vx_callVW X hx (C := C) (hh := hh) (bytes := bytes) (maxL := maxL) (ret := ret) ho hl hin hse hcode hy hK (by rw [hT]; exact hcB) hoB hclB hg (hsize.trans hml.symm) (argsL := As) (rest := rest) (fun sig h => hn.trans (hlen sig h)) hstack hW (by rw [hb]; exact hdg)
    (fun vm₁ hW₁ => ⟨hf.1, hf.2, hPc (T.setVm vm₁) hT hW₁⟩)
  dsimp only [Pt.U, Pt.locs, Pt.cells, Pt.slots] at X' e1 e2 h1 h2 h3 st
  subst h1; subst h2; subst h3
  exact ⟨v, (T.setVm vm₁).calling g' mk (Value.ref b :: As).toArray, t, U', L, hT, X', hL, e1, e2, hq, st⟩
section
variable {y : MethodName} {bytes cc : ByteArray} {maxL nL mc ms n index : Nat} {ret : Option FieldType} {ws : List Cond} {rm : Room} {Pc : Array Value → State → Prop} {Qc : Array Value → State → Outcome → State → Prop} {XC : String → State → State → Prop} {free : Addr → Prop} {Ts : List Cond} {own C : String} {b : Addr} {As rest : List Value} {g : JFrame}
theorem vx_runVX {hh : List (Nat × Nat × Nat × Nat)} (S : CallFix p m c cc nL s args Ts own) (hM : vx_Met l y ws rm Pc Qc XC mc ms free) (cw : vx_CVW R s args own C index y bytes maxL ret hh ws rm mc ms n) (hp : PreV s H C b Pc As)
    (hg : g.method = m) (hn : As.length = n) (hsize : g.locals.size = nL) (hstack : g.stack = As.reverse ++ .ref b :: rest) (hW : 2 * g.monitorRoom + (rest.map fun v => v.category).sum ≤ 8) (hdg : decode cc g.pc = .ok (.invokevirtual index, 3)) (hf : cells + mc ≤ R.cells ∧ slots + ms ≤ R.slots) :
    vx_Run p l e R s m args below meth c H locs cells slots mc ms g rest (Qc (Value.ref b :: As).toArray) XC free := by
  obtain ⟨⟨hrc, hrs, hfr, hlo, hws, hcw⟩, hcode, hini, hy, hlen, hl, hin, hse⟩ := cw
  have hK : vx_Back l R p e below s args y 3 8 (PreOf R mc ms Pc) (PostOf Qc mc ms free) (vx_Post XC mc ms free) := vx_backW (hh := hh) (bytes := bytes) (maxL := maxL) (ret := ret) hM hp.1 hrc hrs hfr hlo hws hcw (fun a' U hW => word_at hW (Or.inl (by first | rfl | simp [Cond.onTables, Cond.keeps, Cond.steady])) hini)
  obtain ⟨hx, hb, hml, ho, -⟩ := S
  obtain ⟨-, ⟨cellB, hcB, hoB, hclB⟩, hPc⟩ := hp
  intro T hT X
  rcases vx_callVX X hx (C := C) (hh := hh) (bytes := bytes) (maxL := maxL) (ret := ret) ho hl hin hse hcode hy hK (by rw [hT]; exact hcB) hoB hclB hg (hsize.trans hml.symm) (argsL := As) (rest := rest) (fun sig h => hn.trans (hlen sig h)) hstack hW (by rw [hb]; exact hdg)
    (fun vm₁ hW₁ => ⟨hf.1, hf.2, hPc (T.setVm vm₁) hT hW₁⟩) with ⟨v, vm₁, ⟨U', l2, c2, s2⟩, hW₁, X', ⟨g', mk, t, L, e1, e2, hq, h1, hL, h2, h3⟩, st⟩ | ⟨q, vm₁, ⟨U', l2, c2, s2⟩, hW₁, X', ⟨g', mk, t, L, E, ce, e1, e2, hq, hce, hcv, hcl, h1, hL, h2, h3⟩, st⟩
  · dsimp only [Pt.U, Pt.locs, Pt.cells, Pt.slots] at X' e1 e2 h1 h2 h3 st
    subst h1; subst h2; subst h3
    exact Or.inl ⟨v, (T.setVm vm₁).calling g' mk (Value.ref b :: As).toArray, t, U', L, hT, X', hL, e1, e2, hq, st⟩
  · dsimp only [Pt.U, Pt.locs, Pt.cells, Pt.slots] at X' e1 e2 h1 h2 h3 st hcl
    subst h1; subst h2; subst h3
    exact Or.inr ⟨q, (T.setVm vm₁).calling g' mk (Value.ref b :: As).toArray, t, U', L, E, ce, hT, X', hL, e1, e2, hq, hce, hcv, vx_cls hW₁ hcl, st⟩
theorem vx_runSX {hh : List (Nat × Nat × Nat × Nat)} (S : CallFix p m c cc nL s args Ts own) (hM : vx_Met l y ws rm Pc Qc XC mc ms free) (cw : vx_CSW R s args own index y bytes maxL ret hh ws rm mc ms n) (hp : PreS s H Pc As)
    (hg : g.method = m) (hn : As.length = n) (hsize : g.locals.size = nL) (hstack : g.stack = As.reverse ++ rest) (hW : 2 * g.monitorRoom + (rest.map fun v => v.category).sum ≤ 8) (hdg : decode cc g.pc = .ok (.invokestatic index, 3)) (hf : cells + mc ≤ R.cells ∧ slots + ms ≤ R.slots) :
    vx_Run p l e R s m args below meth c H locs cells slots mc ms g rest (Qc As.toArray) XC free := by
  obtain ⟨⟨hrc, hrs, hfr, hlo, hws, hcw⟩, hcode, hini, hy, hlen, hl, hstt⟩ := cw
  have hK : vx_Back l R p e below s args y 3 8 (PreOf R mc ms Pc) (PostOf Qc mc ms free) (vx_Post XC mc ms free) := vx_backW (hh := hh) (bytes := bytes) (maxL := maxL) (ret := ret) hM hp.1 hrc hrs hfr hlo hws hcw (fun a' U hW => word_at hW (Or.inl (by first | rfl | simp [Cond.onTables, Cond.keeps, Cond.steady])) hini)
  obtain ⟨hx, hb, hml, ho, -⟩ := S
  intro T hT X
  rcases vx_callSX X hx (hh := hh) (bytes := bytes) (maxL := maxL) (ret := ret) ho hl hstt hini hcode hy hK hg (hsize.trans hml.symm) (argsL := As) (rest := rest) (fun sig h => hn.trans (hlen sig h)) hstack hW (by rw [hb]; exact hdg)
    (fun vm₁ hW₁ => ⟨hf.1, hf.2, hp.2 (T.setVm vm₁) hT hW₁⟩) with ⟨v, vm₁, ⟨U', l2, c2, s2⟩, hW₁, X', ⟨g', mk, t, L, e1, e2, hq, h1, hL, h2, h3⟩, st⟩ | ⟨q, vm₁, ⟨U', l2, c2, s2⟩, hW₁, X', ⟨g', mk, t, L, E, ce, e1, e2, hq, hce, hcv, hcl, h1, hL, h2, h3⟩, st⟩
  · dsimp only [Pt.U, Pt.locs, Pt.cells, Pt.slots] at X' e1 e2 h1 h2 h3 st
    subst h1; subst h2; subst h3
    exact Or.inl ⟨v, (T.setVm vm₁).calling g' mk As.toArray, t, U', L, hT, X', hL, e1, e2, hq, st⟩
  · dsimp only [Pt.U, Pt.locs, Pt.cells, Pt.slots] at X' e1 e2 h1 h2 h3 st hcl
    subst h1; subst h2; subst h3
    exact Or.inr ⟨q, (T.setVm vm₁).calling g' mk As.toArray, t, U', L, E, ce, hT, X', hL, e1, e2, hq, hce, hcv, vx_cls hW₁ hcl, st⟩
end
end VXH
theorem vx_ofWH {l : Launch} {y : MethodName} {ws ws' : List Cond} {rm : Room} {Pc : Array Value → State → Prop} {Qc : Array Value → State → Outcome → State → Prop} {XC : String → State → State → Prop} {mc ms : Nat} {free : Addr → Prop} {cc : ByteArray} {maxL : Nat} {ret : Option FieldType} {hh : List (Nat × Nat × Nat × Nat)}
    (hy : plainName y.cls = true) (hw : ws = Cond.codeWith y cc maxL ret hh :: ws')
    (body : ∀ p e s m args below meth c s₁, BodyLoose p l y (headSpec ws rm) cc maxL ret e s m args below meth c s₁ → c.maxLocals = maxL → Pc args s →
      W p l e (headSpec ws rm).room s m args below meth c s.heap [] 0 0 (vx_MQ below Qc XC args s mc ms free) (entryFrame m args maxL)) : vx_Met l y ws rm Pc Qc XC mc ms free := by
  refine MetFree.of_bodyS (code := cc) (maxLocals := maxL) (ret := ret) hy ?_ ?_
  · intro args s m h hn
    obtain ⟨m9, meth, c, hn9, h1, h2, h3, h4, -, h5, h6, -⟩ := Cond.codeWith_spec (atoms_spec (ws := ws) h _ (by rw [hw]; exact List.mem_cons_self))
    cases hn.symm.trans hn9
    exact ⟨meth, c, h1, h2, h3, h4, h5, h6⟩
  · intro p e s m args below meth c s₁ B hml hP _
    have hh0 : s₁.heap = s.heap := by rw [B.state]; rfl
    obtain ⟨t, a1, o, b1, b2, b3⟩ := body p e s m args below meth c s₁ B hml hP s₁ hh0 (Stand.of_body B)
    exact ⟨t, o, a1, b1, b2, b3⟩
/-! ===== END ===== -/
end
section
/-! THE SMALL MACHINE: memory by places, a program by rows, and its verification condition (xm_w), sound over the kit's W (xm_sound). -/
/-- memory: place p (an object or an array of the world), index k (an int field, an element) -/
abbrev xm_M : Type := Nat → Nat → Int32
def xm_up (M : xm_M) (p k : Nat) (x : Int32) : xm_M := fun a b => if a = p then (if b = k then x else M a b) else M a b
/-- a place: an array (type, length, of longs) or an object (its class, its fields: a fixed place, or an int) -/
abbrev xm_E : Type := (Nat × Nat × Bool) ⊕ (Nat × List (Option Nat))
def xm_v (ad : Nat → Nat) (v : Value) : Value := match v with
  | .ref k => .ref (ad k)
  | w => w
def xm_f (ad : Nat → Nat) (M : xm_M) (p k : Nat) (o : Option Nat) : Value := match o with
  | some q => .ref (ad q)
  | none => .int (M p k)
def xm_e (ad dA : Nat → Nat) (M : xm_M) (p : Nat) (en : xm_E) : va_E := match en with
  | .inl (t, n, false) => .inl (dA t, n, .inl (M p))
  | .inl (t, n, true) => .inl (dA t, n, .inr (.inl (fun i => (M p i).toInt64)))
  | .inr (ci, fk) => .inr (ci, fk.mapIdx (xm_f ad M p))
def xm_W (ad dA : Nat → Nat) (tp : List xm_E) (M : xm_M) : va_W := tp.mapIdx (fun p en => (ad p, xm_e ad dA M p en))
theorem xm_W_at {ad dA : Nat → Nat} {tp : List xm_E} {M : xm_M} {p : Nat} {en : xm_E} (h : tp[p]? = some en) : (xm_W ad dA tp M)[p]? = some (ad p, xm_e ad dA M p en) := by
  simp [xm_W, List.getElem?_mapIdx, h]
theorem xm_e_ne {ad dA : Nat → Nat} {M : xm_M} {p q k : Nat} {x : Int32} {en : xm_E} (h : q ≠ p) : xm_e ad dA (xm_up M p k x) q en = xm_e ad dA M q en := by
  have hM : (xm_up M p k x) q = M q := by funext b; simp [xm_up, h]
  rcases en with ⟨t, n, b⟩ | ⟨ci, fk⟩
  · cases b <;> simp [xm_e, hM]
  · have hf : xm_f ad (xm_up M p k x) q = xm_f ad M q := by funext b o; cases o <;> simp [xm_f, hM]
    simp [xm_e, hf]
theorem xm_W_set {ad dA : Nat → Nat} {tp : List xm_E} {M : xm_M} {p k : Nat} {x : Int32} {en : xm_E} (h : tp[p]? = some en) : (xm_W ad dA tp M).set p (ad p, xm_e ad dA (xm_up M p k x) p en) = xm_W ad dA tp (xm_up M p k x) := by
  apply List.ext_getElem?
  intro i
  by_cases hi : i = p
  · subst hi
    have hlt : i < tp.length := (List.getElem?_eq_some_iff.mp h).1
    rw [xm_W_at h, List.getElem?_set_self (by simpa [xm_W] using hlt)]
  · rw [List.getElem?_set_ne (fun q => hi q.symm)]
    simp only [xm_W, List.getElem?_mapIdx]
    cases htp : tp[i]? with
    | none => rfl
    | some e2 => simp [xm_e_ne hi]
theorem xm_e_O {ad dA : Nat → Nat} {M : xm_M} {p k ci : Nat} {x : Int32} {fk : List (Option Nat)} (h : fk[k]? = some none) : xm_e ad dA (xm_up M p k x) p (.inr (ci, fk)) = .inr (ci, (fk.mapIdx (xm_f ad M p)).set k (.int x)) := by
  have hlt : k < fk.length := (List.getElem?_eq_some_iff.mp h).1
  simp only [xm_e]
  congr 2
  apply List.ext_getElem?
  intro i
  by_cases hi : i = k
  · subst hi
    rw [List.getElem?_set_self (by simpa using hlt)]
    simp [List.getElem?_mapIdx, h, xm_f, xm_up]
  · rw [List.getElem?_set_ne (fun q => hi q.symm)]
    simp only [List.getElem?_mapIdx]
    cases hf : fk[i]? with
    | none => rfl
    | some o => cases o <;> simp [xm_f, xm_up, hi]
theorem xm_e_A {ad dA : Nat → Nat} {M : xm_M} {p j t n : Nat} {x : Int32} : xm_e ad dA (xm_up M p j x) p (.inl (t, n, false)) = .inl (dA t, n, .inl (upd (M p) j x)) := by
  have : (xm_up M p j x) p = upd (M p) j x := by funext b; simp [xm_up, upd]
  simp [xm_e, this]
theorem xm_e_L {ad dA : Nat → Nat} {M : xm_M} {p j t n : Nat} {x : Int32} : xm_e ad dA (xm_up M p j x) p (.inl (t, n, true)) = .inl (dA t, n, .inr (.inl (vp_updL (fun i => (M p i).toInt64) j x.toInt64))) := by
  have : (fun i => ((xm_up M p j x) p i).toInt64) = vp_updL (fun i => (M p i).toInt64) j x.toInt64 := by
    funext b
    by_cases hb : b = j <;> simp [xm_up, vp_updL, hb]
  simp only [xm_e, this]
theorem xm_D {ad dA : Nat → Nat} {tp : List xm_E} {A : Nat → Prop} (hj : ∀ i j, i < tp.length → j < tp.length → ad i = ad j → i = j) (hA : ∀ k, k < tp.length → A (ad k)) (M : xm_M) : va_D A (xm_W ad dA tp M) := by
  have key : ∀ (k : Nat) (q : Nat × va_E), (xm_W ad dA tp M)[k]? = some q → k < tp.length ∧ q.1 = ad k := by
    intro k q h
    simp only [xm_W, List.getElem?_mapIdx] at h
    cases ht : tp[k]? with
    | none => rw [ht] at h; cases h
    | some en => rw [ht] at h; cases h; exact ⟨(List.getElem?_eq_some_iff.mp ht).1, rfl⟩
  refine ⟨fun i j a b h1 h2 h3 => ?_, fun k q h => ?_⟩
  · obtain ⟨l1, e1⟩ := key i a h1
    obtain ⟨l2, e2⟩ := key j b h2
    exact hj i j l1 l2 (by rw [← e1, ← e2]; exact h3)
  · obtain ⟨l1, e1⟩ := key k q h
    rw [e1]; exact hA k l1
/-- locals: what is at a number; a number written anew -/
def xm_lk {α : Type} : List (Nat × α) → Nat → Option α
  | [], _ => none
  | q :: r, i => bif Nat.beq q.1 i then some q.2 else xm_lk r i
theorem xm_lk_mem {α : Type} : ∀ {l : List (Nat × α)} {i : Nat} {v : α}, xm_lk l i = some v → (i, v) ∈ l
  | [], _, _, h => by cases h
  | q :: r, i, v, h => by
    unfold xm_lk at h
    cases hb : Nat.beq q.1 i with
    | true =>
      rw [hb] at h
      have e1 : q.1 = i := Nat.eq_of_beq_eq_true hb
      have e2 : q.2 = v := Option.some.inj h
      rw [← e1, ← e2]; exact List.mem_cons_self
    | false =>
      rw [hb] at h
      exact List.mem_cons_of_mem _ (xm_lk_mem h)
def xm_c2 (v : Value) : Bool := match v with
  | .long _ => true
  | .double _ => true
  | _ => false
def xm_rm (i : Nat) : List (Nat × Value) → List (Nat × Value)
  | [] => []
  | q :: r => bif Nat.beq q.1 i || (Nat.beq (q.1 + 1) i && xm_c2 q.2) then xm_rm i r else q :: xm_rm i r
def xm_L (ad : Nat → Nat) (ls : List (Nat × Value)) : List (Nat × Value) := ls.map (fun q => (q.1, xm_v ad q.2))
theorem xm_beq (a b : Nat) : Nat.beq a b = (a == b) := by
  rw [Bool.eq_iff_iff, Nat.beq_eq, beq_iff_eq]
theorem xm_cat (ad : Nat → Nat) (v : Value) : (xm_v ad v).category = v.category := by cases v <;> rfl
theorem xm_c2_cat (v : Value) : xm_c2 v = (v.category == 2) := by cases v <;> rfl
theorem xm_rm_L (ad : Nat → Nat) (i : Nat) : ∀ ls : List (Nat × Value), (xm_L ad ls).filter (fun q => !(q.1 == i) && !(q.1 + 1 == i && q.2.category == 2)) = xm_L ad (xm_rm i ls)
  | [] => rfl
  | q :: r => by
    have ih := xm_rm_L ad i r
    have hb : (Nat.beq q.1 i || (Nat.beq (q.1 + 1) i && xm_c2 q.2)) = !(!(q.1 == i) && !(q.1 + 1 == i && (xm_v ad q.2).category == 2)) := by
      rw [xm_cat, xm_c2_cat]
      have h1 : Nat.beq q.1 i = (q.1 == i) := xm_beq _ _
      have h2 : Nat.beq (q.1 + 1) i = (q.1 + 1 == i) := xm_beq _ _
      rw [h1, h2]
      cases (q.1 == i) <;> cases (q.1 + 1 == i) <;> cases (q.2.category == 2) <;> rfl
    show List.filter _ ((q.1, xm_v ad q.2) :: xm_L ad r) = xm_L ad (xm_rm i (q :: r))
    rw [List.filter_cons, ih]
    rw [show xm_rm i (q :: r) = (bif Nat.beq q.1 i || (Nat.beq (q.1 + 1) i && xm_c2 q.2) then xm_rm i r else q :: xm_rm i r) from rfl, hb]
    cases hc : (!(q.1 == i) && !(q.1 + 1 == i && (xm_v ad q.2).category == 2)) with
    | true => rfl
    | false => rfl
def xm_rm2 (i : Nat) : List (Nat × Value) → List (Nat × Value)
  | [] => []
  | q :: r => bif Nat.beq q.1 i || (Nat.beq q.1 (i + 1) || (Nat.beq (q.1 + 1) i && xm_c2 q.2)) then xm_rm2 i r else q :: xm_rm2 i r
theorem xm_rm2_L (ad : Nat → Nat) (i : Nat) : ∀ ls : List (Nat × Value), (xm_L ad ls).filter (fun q => !(q.1 == i) && (!(q.1 == i + 1) && !(q.1 + 1 == i && q.2.category == 2))) = xm_L ad (xm_rm2 i ls)
  | [] => rfl
  | q :: r => by
    have ih := xm_rm2_L ad i r
    have hb : (Nat.beq q.1 i || (Nat.beq q.1 (i + 1) || (Nat.beq (q.1 + 1) i && xm_c2 q.2))) = !(!(q.1 == i) && (!(q.1 == i + 1) && !(q.1 + 1 == i && (xm_v ad q.2).category == 2))) := by
      rw [xm_cat, xm_c2_cat]
      have h1 : Nat.beq q.1 i = (q.1 == i) := xm_beq _ _
      have h2 : Nat.beq (q.1 + 1) i = (q.1 + 1 == i) := xm_beq _ _
      have h3 : Nat.beq q.1 (i + 1) = (q.1 == i + 1) := xm_beq _ _
      rw [h1, h2, h3]
      cases (q.1 == i) <;> cases (q.1 + 1 == i) <;> cases (q.1 == i + 1) <;> cases (q.2.category == 2) <;> rfl
    show List.filter _ ((q.1, xm_v ad q.2) :: xm_L ad r) = xm_L ad (xm_rm2 i (q :: r))
    rw [List.filter_cons, ih]
    rw [show xm_rm2 i (q :: r) = (bif Nat.beq q.1 i || (Nat.beq q.1 (i + 1) || (Nat.beq (q.1 + 1) i && xm_c2 q.2)) then xm_rm2 i r else q :: xm_rm2 i r) from rfl, hb]
    cases hc : (!(q.1 == i) && (!(q.1 == i + 1) && !(q.1 + 1 == i && (xm_v ad q.2).category == 2))) with
    | true => rfl
    | false => rfl
/-- a program: rows (pc, instruction, length, a cut and the locals that live there) -/
abbrev xm_P : Type := List (Nat × Jvm.ClassFile.Instr × Nat × Option (List Nat))
/-- the locals that live at a cut, by their numbers -/
def xm_lv : List Nat → List (Nat × Value) → List (Nat × Value)
  | [], _ => []
  | i :: r, ls => match xm_lk ls i with
    | some v => (i, v) :: xm_lv r ls
    | none => xm_lv r ls
theorem xm_lv_mem : ∀ {lv : List Nat} {ls : List (Nat × Value)} {q : Nat × Value}, q ∈ xm_lv lv ls → q ∈ ls
  | [], _, _, h => absurd h List.not_mem_nil
  | i :: r, ls, q, h => by
    unfold xm_lv at h
    cases hl : xm_lk ls i with
    | none => rw [hl] at h; exact xm_lv_mem h
    | some v =>
      rw [hl] at h
      rcases List.mem_cons.mp h with h | h
      · rw [h]; exact xm_lk_mem hl
      · exact xm_lv_mem h
theorem xm_lv_has {ad : Nat → Nat} {lsC : Array Slot} {nL : Nat} {lv : List Nat} {ls : List (Nat × Value)} (h : lv_has lsC nL (xm_L ad ls)) : lv_has lsC nL (xm_L ad (xm_lv lv ls)) := by
  refine ⟨h.1, h.2.1, fun q hq => ?_⟩
  obtain ⟨z, hz, rfl⟩ := List.mem_map.mp hq
  exact h.2.2 _ (List.mem_map.mpr ⟨z, xm_lv_mem hz, rfl⟩)
def xm_at : xm_P → Nat → xm_P
  | [], _ => []
  | q :: r, t => bif Nat.beq q.1 t then q :: r else xm_at r t
/-- a call: 0 virtual, 1 static; how many arguments (the receiver too); by how much the count of writes grows (0: it writes nothing); what it asks; what it answers and leaves -/
abbrev xm_C : Type := Nat × Nat × Nat × (List Value → xm_M → Prop) × (List Value → xm_M → Option Value × xm_M)
abbrev xm_K : Type := xm_P → List (Nat × Value) → List Value → xm_M → Nat → Prop
def xm_tg (pr : xm_P) (pc : Nat) (off : Int) : xm_P := xm_at pr ((pc : Int) + off).toNat
def xm_tb (pr : xm_P) (k : xm_P → Prop) (pc : Nat) (x : Int32) : List Int → Int → Prop
  | [], _ => True
  | o :: os, v => (x.toInt = v → 0 ≤ (pc : Int) + o ∧ k (xm_tg pr pc o)) ∧ xm_tb pr k pc x os (v + 1)
def xm_lp (pr : xm_P) (k : xm_P → Prop) (pc : Nat) (x : Int32) (d : Int) : List (Int × Int) → Prop
  | [] => 0 ≤ (pc : Int) + d ∧ k (xm_tg pr pc d)
  | q :: r => (x.toInt = q.1 → 0 ≤ (pc : Int) + q.2 ∧ k (xm_tg pr pc q.2)) ∧ (¬ x.toInt = q.1 → xm_lp pr k pc x d r)
/-- memory behind a call: untouched where it writes nothing -/
def xm_mem (C : xm_C) (as : List Value) (M : xm_M) : xm_M := match C.2.2.1 with
  | 0 => M
  | _ => (C.2.2.2.2 as M).2
def xm_aft (C : xm_C) (k : List Value → xm_M → Nat → Prop) (as rest : List Value) (M : xm_M) (cl : Nat) : Prop := match C.2.2.1 with
  | 0 => k ((C.2.2.2.2 as M).1.toList ++ rest) M cl
  | n + 1 => k ((C.2.2.2.2 as M).1.toList ++ rest) (C.2.2.2.2 as M).2 (cl + (n + 1))
theorem xm_aft_of {C : xm_C} {k : List Value → xm_M → Nat → Prop} {as rest : List Value} {M : xm_M} {cl : Nat} (h : xm_aft C k as rest M cl) : k ((C.2.2.2.2 as M).1.toList ++ rest) (xm_mem C as M) (cl + C.2.2.1) := by
  obtain ⟨kd, n, dn, pre, fn⟩ := C
  cases dn with
  | zero => exact h
  | succ n => exact h
def xm_call (ct : List (Nat × xm_C)) (kd idx : Nat) (k : xm_K) (tl : xm_P) (ls : List (Nat × Value)) (st : List Value) (M : xm_M) (cl : Nat) : Prop := match xm_lk ct idx with
  | none => False
  | some C => C.1 = kd ∧ C.2.1 ≤ st.length ∧ ((st.drop C.2.1).map (fun v => v.category)).sum ≤ 8 ∧ C.2.2.2.1 (st.take C.2.1).reverse M ∧
    xm_aft C (k tl ls) (st.take C.2.1).reverse (st.drop C.2.1) M cl
def xm_get (tp : List xm_E) (ci kf : Nat) (k : xm_K) (tl : xm_P) (ls : List (Nat × Value)) (p : Nat) (r : List Value) (M : xm_M) (cl : Nat) : Prop := match tp[p]? with
  | some (.inr (c2, fk)) => c2 = ci ∧ (match fk[kf]? with
    | some (some q) => k tl ls (.ref q :: r) M cl
    | some none => k tl ls (.int (M p kf) :: r) M cl
    | none => False)
  | _ => False
def xm_put (tp : List xm_E) (ci kf : Nat) (k : xm_K) (tl : xm_P) (ls : List (Nat × Value)) (p : Nat) (x : Int32) (r : List Value) (M : xm_M) (cl : Nat) : Prop := match tp[p]? with
  | some (.inr (c2, fk)) => c2 = ci ∧ (match fk[kf]? with
    | some none => k tl ls r (xm_up M p kf x) (cl + 1)
    | _ => False)
  | _ => False
def xm_ld (sL : Nat) (sx : Nat → Int32) (tp : List xm_E) (t : Nat) (k : xm_K) (tl : xm_P) (ls : List (Nat × Value)) (j : Int32) (p : Nat) (r : List Value) (M : xm_M) (cl : Nat) : Prop := match tp[p]? with
  | some (.inl (t2, n, false)) => t2 = t ∧ vp_in j n ∧ k tl ls (.int (M p j.toNatClampNeg) :: r) M cl
  | none => p = 1000 ∧ t = 0 ∧ 0 < sL ∧ vp_in j (sL - 1) ∧ k tl ls (.int (sx j.toNatClampNeg) :: r) M cl
  | _ => False
def xm_st (tp : List xm_E) (t : Nat) (k : xm_K) (tl : xm_P) (ls : List (Nat × Value)) (x : Int32) (j : Int32) (p : Nat) (r : List Value) (M : xm_M) (cl : Nat) : Prop := match tp[p]? with
  | some (.inl (t2, n, false)) => t2 = t ∧ vp_in j n ∧ k tl ls r (xm_up M p j.toNatClampNeg x) (cl + 1)
  | _ => False
def xm_p1 (st : List Value) (F : Int32 → List Value → Prop) : Prop := match st with
  | .int x :: r => F x r
  | _ => False
def xm_p2 (st : List Value) (F : Int32 → Int32 → List Value → Prop) : Prop := match st with
  | .int y :: .int x :: r => F y x r
  | _ => False
def xm_pA (st : List Value) (F : Nat → List Value → Prop) : Prop := match st with
  | .ref p :: r => F p r
  | _ => False
def xm_pIA (st : List Value) (F : Int32 → Nat → List Value → Prop) : Prop := match st with
  | .int j :: .ref p :: r => F j p r
  | _ => False
def xm_pIIA (st : List Value) (F : Int32 → Int32 → Nat → List Value → Prop) : Prop := match st with
  | .int x :: .int j :: .ref p :: r => F x j p r
  | _ => False
def xm_pJ (st : List Value) (F : Int64 → List Value → Prop) : Prop := match st with
  | .long x :: r => F x r
  | _ => False
def xm_pJJ (st : List Value) (F : Int64 → Int64 → List Value → Prop) : Prop := match st with
  | .long y :: .long x :: r => F y x r
  | _ => False
def xm_pJIA (st : List Value) (F : Int64 → Int32 → Nat → List Value → Prop) : Prop := match st with
  | .long x :: .int j :: .ref p :: r => F x j p r
  | _ => False
def xm_li (ls : List (Nat × Value)) (n : Nat) (F : Int32 → Prop) : Prop := match xm_lk ls n with
  | some (.int x) => F x
  | _ => False
def xm_la (ls : List (Nat × Value)) (n : Nat) (F : Nat → Prop) : Prop := match xm_lk ls n with
  | some (.ref x) => F x
  | _ => False
def xm_ll (ls : List (Nat × Value)) (n : Nat) (F : Int64 → Prop) : Prop := match xm_lk ls n with
  | some (.long x) => F x
  | _ => False
theorem xm_ll_of {ls : List (Nat × Value)} {n : Nat} {F : Int64 → Prop} (h : xm_ll ls n F) : ∃ x, (n, Value.long x) ∈ ls ∧ F x := by
  unfold xm_ll at h
  cases hx : xm_lk ls n with
  | none => rw [hx] at h; exact False.elim h
  | some v => rw [hx] at h; cases v <;> first | exact ⟨_, xm_lk_mem hx, h⟩ | exact False.elim h
def xm_oneJ (st : List Value) (F : Int64 → Prop) : Prop := match st with
  | [.long x] => F x
  | _ => False
theorem xm_oneJ_of {st : List Value} {F : Int64 → Prop} (h : xm_oneJ st F) : ∃ x, st = [.long x] ∧ F x := by
  rcases st with _ | ⟨v, _ | ⟨u, r⟩⟩
  · exact False.elim h
  · cases v <;> first | exact ⟨_, rfl, h⟩ | exact False.elim h
  · cases v <;> exact False.elim h
def xm_op {α : Type} (o : Option α) (F : α → Prop) : Prop := match o with
  | some x => F x
  | none => False
def xm_nil (st : List Value) (F : Prop) : Prop := match st with
  | [] => F
  | _ => False
def xm_one (st : List Value) (F : Int32 → Prop) : Prop := match st with
  | [.int x] => F x
  | _ => False
theorem xm_p1_of {st : List Value} {F : Int32 → List Value → Prop} (h : xm_p1 st F) : ∃ x r, st = .int x :: r ∧ F x r := by
  rcases st with _ | ⟨v, r⟩
  · exact h.elim
  · cases v <;> first | exact ⟨_, _, rfl, h⟩ | exact False.elim h
theorem xm_p2_of {st : List Value} {F : Int32 → Int32 → List Value → Prop} (h : xm_p2 st F) : ∃ y x r, st = .int y :: .int x :: r ∧ F y x r := by
  rcases st with _ | ⟨v, _ | ⟨u, r⟩⟩
  · exact h.elim
  · cases v <;> exact False.elim h
  · cases v <;> first | (cases u <;> first | exact ⟨_, _, _, rfl, h⟩ | exact False.elim h) | exact False.elim h
theorem xm_pA_of {st : List Value} {F : Nat → List Value → Prop} (h : xm_pA st F) : ∃ x r, st = .ref x :: r ∧ F x r := by
  rcases st with _ | ⟨v, r⟩
  · exact h.elim
  · cases v <;> first | exact ⟨_, _, rfl, h⟩ | exact False.elim h
theorem xm_pIA_of {st : List Value} {F : Int32 → Nat → List Value → Prop} (h : xm_pIA st F) : ∃ y x r, st = .int y :: .ref x :: r ∧ F y x r := by
  rcases st with _ | ⟨v, _ | ⟨u, r⟩⟩
  · exact h.elim
  · cases v <;> exact False.elim h
  · cases v <;> first | (cases u <;> first | exact ⟨_, _, _, rfl, h⟩ | exact False.elim h) | exact False.elim h
theorem xm_pIIA_of {st : List Value} {F : Int32 → Int32 → Nat → List Value → Prop} (h : xm_pIIA st F) : ∃ z y x r, st = .int z :: .int y :: .ref x :: r ∧ F z y x r := by
  rcases st with _ | ⟨v, _ | ⟨u, _ | ⟨w, r⟩⟩⟩
  · exact h.elim
  · cases v <;> exact False.elim h
  · cases v <;> first | (cases u <;> exact False.elim h) | exact False.elim h
  · cases v <;> first | (cases u <;> first | (cases w <;> first | exact ⟨_, _, _, _, rfl, h⟩ | exact False.elim h) | exact False.elim h) | exact False.elim h
theorem xm_pJ_of {st : List Value} {F : Int64 → List Value → Prop} (h : xm_pJ st F) : ∃ x r, st = .long x :: r ∧ F x r := by
  rcases st with _ | ⟨v, r⟩
  · exact h.elim
  · cases v <;> first | exact ⟨_, _, rfl, h⟩ | exact False.elim h
theorem xm_pJJ_of {st : List Value} {F : Int64 → Int64 → List Value → Prop} (h : xm_pJJ st F) : ∃ y x r, st = .long y :: .long x :: r ∧ F y x r := by
  rcases st with _ | ⟨v, _ | ⟨u, r⟩⟩
  · exact h.elim
  · cases v <;> exact False.elim h
  · cases v <;> first | (cases u <;> first | exact ⟨_, _, _, rfl, h⟩ | exact False.elim h) | exact False.elim h
theorem xm_pJIA_of {st : List Value} {F : Int64 → Int32 → Nat → List Value → Prop} (h : xm_pJIA st F) : ∃ z y x r, st = .long z :: .int y :: .ref x :: r ∧ F z y x r := by
  rcases st with _ | ⟨v, _ | ⟨u, _ | ⟨w, r⟩⟩⟩
  · exact h.elim
  · cases v <;> exact False.elim h
  · cases v <;> first | (cases u <;> exact False.elim h) | exact False.elim h
  · cases v <;> first | (cases u <;> first | (cases w <;> first | exact ⟨_, _, _, _, rfl, h⟩ | exact False.elim h) | exact False.elim h) | exact False.elim h
theorem xm_op_of {α : Type} {o : Option α} {F : α → Prop} (h : xm_op o F) : ∃ x, o = some x ∧ F x := by
  cases o with
  | none => exact False.elim h
  | some x => exact ⟨x, rfl, h⟩
theorem xm_li_of {ls : List (Nat × Value)} {n : Nat} {F : Int32 → Prop} (h : xm_li ls n F) : ∃ x, (n, Value.int x) ∈ ls ∧ F x := by
  unfold xm_li at h
  cases hx : xm_lk ls n with
  | none => rw [hx] at h; exact False.elim h
  | some v => rw [hx] at h; cases v <;> first | exact ⟨_, xm_lk_mem hx, h⟩ | exact False.elim h
theorem xm_la_of {ls : List (Nat × Value)} {n : Nat} {F : Nat → Prop} (h : xm_la ls n F) : ∃ x, (n, Value.ref x) ∈ ls ∧ F x := by
  unfold xm_la at h
  cases hx : xm_lk ls n with
  | none => rw [hx] at h; exact False.elim h
  | some v => rw [hx] at h; cases v <;> first | exact ⟨_, xm_lk_mem hx, h⟩ | exact False.elim h
theorem xm_nil_of {st : List Value} {F : Prop} (h : xm_nil st F) : st = [] ∧ F := by
  cases st with
  | nil => exact ⟨rfl, h⟩
  | cons v r => exact False.elim h
theorem xm_one_of {st : List Value} {F : Int32 → Prop} (h : xm_one st F) : ∃ x, st = [.int x] ∧ F x := by
  rcases st with _ | ⟨v, _ | ⟨u, r⟩⟩
  · exact False.elim h
  · cases v <;> first | exact ⟨_, rfl, h⟩ | exact False.elim h
  · cases v <;> exact False.elim h
def xm_hd (st : List Value) (F : Value → List Value → Prop) : Prop := match st with
  | v :: r => v.category = 1 ∧ F v r
  | [] => False
theorem xm_hd_of {st : List Value} {F : Value → List Value → Prop} (h : xm_hd st F) : ∃ v r, st = v :: r ∧ v.category = 1 ∧ F v r := by
  rcases st with _ | ⟨v, r⟩
  · exact False.elim h
  · exact ⟨v, r, rfl, h.1, h.2⟩
def xm_ldJ (tp : List xm_E) (k : xm_K) (tl : xm_P) (ls : List (Nat × Value)) (j : Int32) (p : Nat) (r : List Value) (M : xm_M) (cl : Nat) : Prop := match tp[p]? with
  | some (.inl (t2, n, true)) => t2 = 2 ∧ vp_in j n ∧ k tl ls (.long (M p j.toNatClampNeg).toInt64 :: r) M cl
  | _ => False
def xm_stJ (tp : List xm_E) (k : xm_K) (tl : xm_P) (ls : List (Nat × Value)) (x : Int64) (j : Int32) (p : Nat) (r : List Value) (M : xm_M) (cl : Nat) : Prop := match tp[p]? with
  | some (.inl (t2, n, true)) => t2 = 2 ∧ vp_in j n ∧ ∃ y : Int32, x = y.toInt64 ∧ k tl ls r (xm_up M p j.toNatClampNeg y) (cl + 1)
  | _ => False
def xm_al (sL : Nat) (tp : List xm_E) (k : xm_K) (tl : xm_P) (ls : List (Nat × Value)) (p : Nat) (r : List Value) (M : xm_M) (cl : Nat) : Prop := match tp[p]? with
  | some (.inl (t, n, _)) => t < 3 ∧ k tl ls (.int (Int32.ofNat n) :: r) M cl
  | none => p = 1000 ∧ 0 < sL ∧ k tl ls (.int (Int32.ofNat (sL - 1)) :: r) M cl
  | _ => False
theorem xm_get_of {tp : List xm_E} {ci kf : Nat} {k : xm_K} {tl : xm_P} {ls : List (Nat × Value)} {p : Nat} {r : List Value} {M : xm_M} {cl : Nat} (h : xm_get tp ci kf k tl ls p r M cl) :
    ∃ fk o, tp[p]? = some (.inr (ci, fk)) ∧ fk[kf]? = some o ∧ (match o with | some q => k tl ls (.ref q :: r) M cl | none => k tl ls (.int (M p kf) :: r) M cl) := by
  unfold xm_get at h
  cases ht : tp[p]? with
  | none => rw [ht] at h; exact False.elim h
  | some en =>
    rw [ht] at h
    rcases en with ⟨t, n, b⟩ | ⟨c2, fk⟩
    · exact False.elim h
    · obtain ⟨rfl, h⟩ := h
      cases hf : fk[kf]? with
      | none => rw [hf] at h; exact False.elim h
      | some o =>
        rw [hf] at h
        cases o with
        | none => exact ⟨fk, none, rfl, hf, h⟩
        | some q => exact ⟨fk, some q, rfl, hf, h⟩
theorem xm_put_of {tp : List xm_E} {ci kf : Nat} {k : xm_K} {tl : xm_P} {ls : List (Nat × Value)} {p : Nat} {x : Int32} {r : List Value} {M : xm_M} {cl : Nat} (h : xm_put tp ci kf k tl ls p x r M cl) :
    ∃ fk, tp[p]? = some (.inr (ci, fk)) ∧ fk[kf]? = some none ∧ k tl ls r (xm_up M p kf x) (cl + 1) := by
  unfold xm_put at h
  cases ht : tp[p]? with
  | none => rw [ht] at h; exact False.elim h
  | some en =>
    rw [ht] at h
    rcases en with ⟨t, n, b⟩ | ⟨c2, fk⟩
    · exact False.elim h
    · obtain ⟨rfl, h⟩ := h
      cases hf : fk[kf]? with
      | none => rw [hf] at h; exact False.elim h
      | some o =>
        rw [hf] at h
        cases o with
        | none => exact ⟨fk, rfl, hf, h⟩
        | some q => exact False.elim h
theorem xm_ld_of {sL : Nat} {sx : Nat → Int32} {tp : List xm_E} {t : Nat} {k : xm_K} {tl : xm_P} {ls : List (Nat × Value)} {j : Int32} {p : Nat} {r : List Value} {M : xm_M} {cl : Nat} (h : xm_ld sL sx tp t k tl ls j p r M cl) :
    (∃ n, tp[p]? = some (.inl (t, n, false)) ∧ vp_in j n ∧ k tl ls (.int (M p j.toNatClampNeg) :: r) M cl) ∨ (p = 1000 ∧ t = 0 ∧ 0 < sL ∧ vp_in j (sL - 1) ∧ k tl ls (.int (sx j.toNatClampNeg) :: r) M cl) := by
  unfold xm_ld at h
  cases ht : tp[p]? with
  | none => rw [ht] at h; exact Or.inr h
  | some en =>
    rw [ht] at h
    rcases en with ⟨t2, n, b⟩ | ⟨c2, fk⟩
    · cases b with
      | true => exact False.elim h
      | false => obtain ⟨rfl, h1, h2⟩ := h; exact Or.inl ⟨n, rfl, h1, h2⟩
    · exact False.elim h
theorem xm_st_of {tp : List xm_E} {t : Nat} {k : xm_K} {tl : xm_P} {ls : List (Nat × Value)} {x j : Int32} {p : Nat} {r : List Value} {M : xm_M} {cl : Nat} (h : xm_st tp t k tl ls x j p r M cl) :
    ∃ n, tp[p]? = some (.inl (t, n, false)) ∧ vp_in j n ∧ k tl ls r (xm_up M p j.toNatClampNeg x) (cl + 1) := by
  unfold xm_st at h
  cases ht : tp[p]? with
  | none => rw [ht] at h; exact False.elim h
  | some en =>
    rw [ht] at h
    rcases en with ⟨t2, n, b⟩ | ⟨c2, fk⟩
    · cases b with
      | true => exact False.elim h
      | false => obtain ⟨rfl, h1, h2⟩ := h; exact ⟨n, rfl, h1, h2⟩
    · exact False.elim h
theorem xm_ldJ_of {tp : List xm_E} {k : xm_K} {tl : xm_P} {ls : List (Nat × Value)} {j : Int32} {p : Nat} {r : List Value} {M : xm_M} {cl : Nat} (h : xm_ldJ tp k tl ls j p r M cl) :
    ∃ n, tp[p]? = some (.inl (2, n, true)) ∧ vp_in j n ∧ k tl ls (.long (M p j.toNatClampNeg).toInt64 :: r) M cl := by
  unfold xm_ldJ at h
  cases ht : tp[p]? with
  | none => rw [ht] at h; exact False.elim h
  | some en =>
    rw [ht] at h
    rcases en with ⟨t2, n, b⟩ | ⟨c2, fk⟩
    · cases b with
      | false => exact False.elim h
      | true => obtain ⟨rfl, h1, h2⟩ := h; exact ⟨n, rfl, h1, h2⟩
    · exact False.elim h
theorem xm_stJ_of {tp : List xm_E} {k : xm_K} {tl : xm_P} {ls : List (Nat × Value)} {x : Int64} {j : Int32} {p : Nat} {r : List Value} {M : xm_M} {cl : Nat} (h : xm_stJ tp k tl ls x j p r M cl) :
    ∃ n y, tp[p]? = some (.inl (2, n, true)) ∧ x = Int32.toInt64 y ∧ vp_in j n ∧ k tl ls r (xm_up M p j.toNatClampNeg y) (cl + 1) := by
  unfold xm_stJ at h
  cases ht : tp[p]? with
  | none => rw [ht] at h; exact False.elim h
  | some en =>
    rw [ht] at h
    rcases en with ⟨t2, n, b⟩ | ⟨c2, fk⟩
    · cases b with
      | false => exact False.elim h
      | true => obtain ⟨rfl, h1, y, h3, h2⟩ := h; exact ⟨n, y, rfl, h3, h1, h2⟩
    · exact False.elim h
theorem xm_al_of {sL : Nat} {tp : List xm_E} {k : xm_K} {tl : xm_P} {ls : List (Nat × Value)} {p : Nat} {r : List Value} {M : xm_M} {cl : Nat} (h : xm_al sL tp k tl ls p r M cl) :
    (∃ t n b, tp[p]? = some (.inl (t, n, b)) ∧ t < 3 ∧ k tl ls (.int (Int32.ofNat n) :: r) M cl) ∨ (p = 1000 ∧ 0 < sL ∧ k tl ls (.int (Int32.ofNat (sL - 1)) :: r) M cl) := by
  unfold xm_al at h
  cases ht : tp[p]? with
  | none => rw [ht] at h; exact Or.inr h
  | some en =>
    rw [ht] at h
    rcases en with ⟨t2, n, b⟩ | ⟨c2, fk⟩
    · exact Or.inl ⟨t2, n, b, rfl, h.1, h.2⟩
    · exact False.elim h
theorem xm_tb_of {pr : xm_P} {k : xm_P → Prop} {pc : Nat} {x : Int32} : ∀ {os : List Int} {v : Int}, xm_tb pr k pc x os v → ∀ j : Nat, j < os.length → x.toInt = v + j → ∃ o, os[j]? = some o ∧ 0 ≤ (pc : Int) + o ∧ k (xm_tg pr pc o)
  | [], _, _, j, hj, _ => absurd hj (Nat.not_lt_zero j)
  | o :: os, v, h, 0, _, hx => ⟨o, rfl, (h.1 (by simpa using hx)).1, (h.1 (by simpa using hx)).2⟩
  | o :: os, v, h, j + 1, hj, hx => by
    obtain ⟨o2, e1, e2⟩ := xm_tb_of h.2 j (by simpa using hj) (by rw [hx]; push_cast; omega)
    exact ⟨o2, by simpa using e1, e2⟩
theorem xm_lp_of {pr : xm_P} {k : xm_P → Prop} {pc : Nat} {x : Int32} {d : Int} : ∀ {os : List (Int × Int)}, xm_lp pr k pc x d os → 0 ≤ (pc : Int) + Jvm.Op.lookupswitch.offset os d x.toInt ∧ k (xm_tg pr pc (Jvm.Op.lookupswitch.offset os d x.toInt))
  | [], h => h
  | q :: r, h => by
    by_cases hq : x.toInt = q.1
    · have e : Jvm.Op.lookupswitch.offset (q :: r) d x.toInt = q.2 := by simp [Jvm.Op.lookupswitch.offset, hq]
      rw [e]; exact h.1 hq
    · have e : Jvm.Op.lookupswitch.offset (q :: r) d x.toInt = Jvm.Op.lookupswitch.offset r d x.toInt := by simp [Jvm.Op.lookupswitch.offset, Ne.symm hq, hq]
      rw [e]; exact xm_lp_of (h.2 hq)
/-- what an instruction asks, and how the walk goes on -/
def xm_i (sL : Nat) (sx : Nat → Int32) (pr : xm_P) (fl : List (Nat × Nat × Nat)) (ct : List (Nat × xm_C)) (cn : List (Nat × Int32)) (cj : List (Nat × Int64)) (tp : List xm_E) (rt : FieldType) (nL : Nat) (Qr : Option Value → xm_M → Nat → Prop) (Qt : Nat → Nat → xm_M → Nat → Prop) (k : xm_K)
    (pc : Nat) (i : Jvm.ClassFile.Instr) (tl : xm_P) (ls : List (Nat × Value)) (st : List Value) (M : xm_M) (cl : Nat) : Prop := match i with
  | .iconst n => k tl ls (.int (Int32.ofInt n) :: st) M cl
  | .bipush n => k tl ls (.int (Int32.ofInt n) :: st) M cl
  | .sipush n => k tl ls (.int (Int32.ofInt n) :: st) M cl
  | .ldc n => xm_op (xm_lk cn n) (fun v => k tl ls (.int v :: st) M cl)
  | .ldc_w n => xm_op (xm_lk cn n) (fun v => k tl ls (.int v :: st) M cl)
  | .iload n => xm_li ls n (fun x => k tl ls (.int x :: st) M cl)
  | .iload_n n => xm_li ls n.val (fun x => k tl ls (.int x :: st) M cl)
  | .aload n => xm_la ls n (fun x => k tl ls (.ref x :: st) M cl)
  | .aload_n n => xm_la ls n.val (fun x => k tl ls (.ref x :: st) M cl)
  | .istore n => n < nL ∧ xm_p1 st (fun x r => k tl ((n, .int x) :: xm_rm n ls) r M cl)
  | .istore_n n => n.val < nL ∧ xm_p1 st (fun x r => k tl ((n.val, .int x) :: xm_rm n.val ls) r M cl)
  | .astore n => n < nL ∧ xm_pA st (fun x r => k tl ((n, .ref x) :: xm_rm n ls) r M cl)
  | .astore_n n => n.val < nL ∧ xm_pA st (fun x r => k tl ((n.val, .ref x) :: xm_rm n.val ls) r M cl)
  | .iinc n d => n < nL ∧ xm_li ls n (fun x => k tl ((n, .int (x + Int32.ofInt d)) :: xm_rm n ls) st M cl)
  | .iadd => xm_p2 st (fun y x r => k tl ls (.int (x + y) :: r) M cl)
  | .isub => xm_p2 st (fun y x r => k tl ls (.int (x - y) :: r) M cl)
  | .imul => xm_p2 st (fun y x r => k tl ls (.int (x * y) :: r) M cl)
  | .iand => xm_p2 st (fun y x r => k tl ls (.int (x &&& y) :: r) M cl)
  | .ior => xm_p2 st (fun y x r => k tl ls (.int (x ||| y) :: r) M cl)
  | .ixor => xm_p2 st (fun y x r => k tl ls (.int (x ^^^ y) :: r) M cl)
  | .ishl => xm_p2 st (fun y x r => k tl ls (.int (x <<< (y &&& 31)) :: r) M cl)
  | .ishr => xm_p2 st (fun y x r => k tl ls (.int (x >>> (y &&& 31)) :: r) M cl)
  | .iushr => xm_p2 st (fun y x r => k tl ls (.int (x.toUInt32 >>> (y.toUInt32 &&& Int32.toUInt32 31)).toInt32 :: r) M cl)
  | .idiv => xm_p2 st (fun y x r => ¬ y = 0 ∧ k tl ls (.int (x / y) :: r) M cl)
  | .irem => xm_p2 st (fun y x r => ¬ y = 0 ∧ k tl ls (.int (x - x / y * y) :: r) M cl)
  | .ineg => xm_p1 st (fun x r => k tl ls (.int (-x) :: r) M cl)
  | .dup => xm_hd st (fun v r => k tl ls (v :: v :: r) M cl)
  | .pop => xm_hd st (fun v r => k tl ls r M cl)
  | .dup2 => xm_pIA st (fun x p r => k tl ls (.int x :: .ref p :: .int x :: .ref p :: r) M cl)
  | .dup_x1 => xm_pIA st (fun x p r => k tl ls (.int x :: .ref p :: .int x :: r) M cl)
  | .dup_x2 => xm_pIIA st (fun x z p r => k tl ls (.int x :: .int z :: .ref p :: .int x :: r) M cl)
  | .goto off => 0 ≤ (pc : Int) + off ∧ k (xm_tg pr pc off) ls st M cl
  | .ifCond .eq off => 0 ≤ (pc : Int) + off ∧ xm_p1 st (fun x r => (x = 0 → k (xm_tg pr pc off) ls r M cl) ∧ (¬ x = 0 → k tl ls r M cl))
  | .ifCond .ne off => 0 ≤ (pc : Int) + off ∧ xm_p1 st (fun x r => (¬ x = 0 → k (xm_tg pr pc off) ls r M cl) ∧ (x = 0 → k tl ls r M cl))
  | .ifCond .lt off => 0 ≤ (pc : Int) + off ∧ xm_p1 st (fun x r => (x < 0 → k (xm_tg pr pc off) ls r M cl) ∧ (¬ x < 0 → k tl ls r M cl))
  | .ifCond .ge off => 0 ≤ (pc : Int) + off ∧ xm_p1 st (fun x r => (0 ≤ x → k (xm_tg pr pc off) ls r M cl) ∧ (¬ 0 ≤ x → k tl ls r M cl))
  | .ifCond .gt off => 0 ≤ (pc : Int) + off ∧ xm_p1 st (fun x r => (0 < x → k (xm_tg pr pc off) ls r M cl) ∧ (¬ 0 < x → k tl ls r M cl))
  | .ifCond .le off => 0 ≤ (pc : Int) + off ∧ xm_p1 st (fun x r => (x ≤ 0 → k (xm_tg pr pc off) ls r M cl) ∧ (¬ x ≤ 0 → k tl ls r M cl))
  | .if_icmp .eq off => 0 ≤ (pc : Int) + off ∧ xm_p2 st (fun y x r => (x = y → k (xm_tg pr pc off) ls r M cl) ∧ (¬ x = y → k tl ls r M cl))
  | .if_icmp .ne off => 0 ≤ (pc : Int) + off ∧ xm_p2 st (fun y x r => (¬ x = y → k (xm_tg pr pc off) ls r M cl) ∧ (x = y → k tl ls r M cl))
  | .if_icmp .lt off => 0 ≤ (pc : Int) + off ∧ xm_p2 st (fun y x r => (x < y → k (xm_tg pr pc off) ls r M cl) ∧ (¬ x < y → k tl ls r M cl))
  | .if_icmp .ge off => 0 ≤ (pc : Int) + off ∧ xm_p2 st (fun y x r => (y ≤ x → k (xm_tg pr pc off) ls r M cl) ∧ (¬ y ≤ x → k tl ls r M cl))
  | .if_icmp .gt off => 0 ≤ (pc : Int) + off ∧ xm_p2 st (fun y x r => (y < x → k (xm_tg pr pc off) ls r M cl) ∧ (¬ y < x → k tl ls r M cl))
  | .if_icmp .le off => 0 ≤ (pc : Int) + off ∧ xm_p2 st (fun y x r => (x ≤ y → k (xm_tg pr pc off) ls r M cl) ∧ (¬ x ≤ y → k tl ls r M cl))
  | .getfield n => xm_op (xm_lk fl n) (fun q => xm_pA st (fun p r => xm_get tp q.1 q.2 k tl ls p r M cl))
  | .putfield n => xm_op (xm_lk fl n) (fun q => xm_pIA st (fun x p r => xm_put tp q.1 q.2 k tl ls p x r M cl))
  | .iaload => xm_pIA st (fun j p r => xm_ld sL sx tp 0 k tl ls j p r M cl)
  | .baload => xm_pIA st (fun j p r => xm_ld sL sx tp 1 k tl ls j p r M cl)
  | .iastore => xm_pIIA st (fun x j p r => xm_st tp 0 k tl ls x j p r M cl)
  | .bastore => xm_pIIA st (fun x j p r => vp_nar .boolean x = x ∧ xm_st tp 1 k tl ls x j p r M cl)
  | .laload => xm_pIA st (fun j p r => xm_ldJ tp k tl ls j p r M cl)
  | .lastore => xm_pJIA st (fun x j p r => xm_stJ tp k tl ls x j p r M cl)
  | .i2l => xm_p1 st (fun x r => k tl ls (.long x.toInt64 :: r) M cl)
  | .arraylength => xm_pA st (fun p r => xm_al sL tp k tl ls p r M cl)
  | .invokevirtual n => xm_call ct 0 n k tl ls st M cl
  | .invokestatic n => xm_call ct 1 n k tl ls st M cl
  | .ireturn => xm_one st (fun v => narrow rt (.int v) = .int v ∧ Qr (some (.int v)) M cl)
  | .return_ => xm_nil st (Qr none M cl)
  | .new n => xm_nil st (Qt pc n M cl)
  | .tableswitch d lo hi offs => xm_p1 st (fun x r => (x.toInt < lo ∨ hi < x.toInt → 0 ≤ (pc : Int) + d ∧ k (xm_tg pr pc d) ls r M cl) ∧ hi < lo + offs.size ∧ xm_tb pr (fun c => k c ls r M cl) pc x offs.toList lo)
  | .lookupswitch d ps => xm_p1 st (fun x r => ((ps.toList.zip (ps.toList.drop 1)).all (fun (a, next) => a.1 < next.1)) = true ∧ xm_lp pr (fun c => k c ls r M cl) pc x d ps.toList)
  | .lconst n => k tl ls (.long (Int64.ofNat n.val) :: st) M cl
  | .ldc2_w n => xm_op (xm_lk cj n) (fun v => k tl ls (.long v :: st) M cl)
  | .lload n => xm_ll ls n (fun x => k tl ls (.long x :: st) M cl)
  | .lload_n n => xm_ll ls n.val (fun x => k tl ls (.long x :: st) M cl)
  | .lstore n => n + 1 < nL ∧ xm_pJ st (fun x r => k tl ((n, .long x) :: xm_rm2 n ls) r M cl)
  | .lstore_n n => n.val + 1 < nL ∧ xm_pJ st (fun x r => k tl ((n.val, .long x) :: xm_rm2 n.val ls) r M cl)
  | .ladd => xm_pJJ st (fun y x r => k tl ls (.long (x + y) :: r) M cl)
  | .lsub => xm_pJJ st (fun y x r => k tl ls (.long (x - y) :: r) M cl)
  | .lmul => xm_pJJ st (fun y x r => k tl ls (.long (x * y) :: r) M cl)
  | .ldiv => xm_pJJ st (fun y x r => ¬ y = 0 ∧ k tl ls (.long (x / y) :: r) M cl)
  | .lrem => xm_pJJ st (fun y x r => ¬ y = 0 ∧ k tl ls (.long (x - x / y * y) :: r) M cl)
  | .lneg => xm_pJ st (fun x r => k tl ls (.long (-x) :: r) M cl)
  | .lcmp => xm_pJJ st (fun y x r => k tl ls (.int (lg_cmp x y) :: r) M cl)
  | .l2i => xm_pJ st (fun x r => k tl ls (.int x.toInt32 :: r) M cl)
  | .lreturn => xm_oneJ st (fun v => Qr (some (.long v)) M cl)
  | _ => False
/-- how long an instruction is (0: by its own row) -/
def xm_len (i : Jvm.ClassFile.Instr) : Nat := match i with
  | .iconst _ => 1
  | .bipush _ => 2
  | .sipush _ => 3
  | .ldc _ => 2
  | .ldc_w _ => 3
  | .iload _ => 2
  | .iload_n _ => 1
  | .aload _ => 2
  | .aload_n _ => 1
  | .istore _ => 2
  | .istore_n _ => 1
  | .astore _ => 2
  | .astore_n _ => 1
  | .iinc _ _ => 3
  | .iadd => 1
  | .isub => 1
  | .imul => 1
  | .iand => 1
  | .ior => 1
  | .ixor => 1
  | .ishl => 1
  | .ishr => 1
  | .iushr => 1
  | .idiv => 1
  | .irem => 1
  | .ineg => 1
  | .dup => 1
  | .pop => 1
  | .dup2 => 1
  | .dup_x1 => 1
  | .dup_x2 => 1
  | .goto _ => 3
  | .ifCond _ _ => 3
  | .if_icmp _ _ => 3
  | .getfield _ => 3
  | .putfield _ => 3
  | .iaload => 1
  | .baload => 1
  | .iastore => 1
  | .bastore => 1
  | .laload => 1
  | .lastore => 1
  | .i2l => 1
  | .arraylength => 1
  | .invokevirtual _ => 3
  | .invokestatic _ => 3
  | .ireturn => 1
  | .return_ => 1
  | .new _ => 3
  | .tableswitch _ _ _ _ => 0
  | .lookupswitch _ _ => 0
  | .lconst _ => 1
  | .ldc2_w _ => 3
  | .lload _ => 2
  | .lload_n _ => 1
  | .lstore _ => 2
  | .lstore_n _ => 1
  | .ladd => 1
  | .lsub => 1
  | .lmul => 1
  | .ldiv => 1
  | .lrem => 1
  | .lneg => 1
  | .lcmp => 1
  | .l2i => 1
  | .lreturn => 1
  | _ => 0
def xm_w (sL : Nat) (sx : Nat → Int32) (pr : xm_P) (fl : List (Nat × Nat × Nat)) (ct : List (Nat × xm_C)) (cn : List (Nat × Int32)) (cj : List (Nat × Int64)) (tp : List xm_E) (rt : FieldType) (nL : Nat) (Qr : Option Value → xm_M → Nat → Prop) (Qt : Nat → Nat → xm_M → Nat → Prop) (K : Nat → List (Nat × Value) → List Value → xm_M → Nat → Prop) :
    Nat → Bool → xm_P → List (Nat × Value) → List Value → xm_M → Nat → Prop
  | 0, _, _, _, _, _, _ => False
  | _ + 1, _, [], _, _, _, _ => False
  | n + 1, b, q :: tl, ls, st, M, cl => match b, q.2.2.2 with
    | true, some lv => K q.1 (xm_lv lv ls) st M cl
    | _, _ => xm_i sL sx pr fl ct cn cj tp rt nL Qr Qt (fun c ls st M cl => xm_w sL sx pr fl ct cn cj tp rt nL Qr Qt K n true c ls st M cl) q.1 q.2.1 tl ls st M cl
/-- a small constant is what it says -/
def xm_lit (i : Jvm.ClassFile.Instr) : Bool := match i with
  | .bipush n => decide ((Int8.ofInt n).toInt32 = Int32.ofInt n)
  | .sipush n => decide ((Int16.ofInt n).toInt32 = Int32.ofInt n)
  | _ => true
def xm_ch (cc : ByteArray) : xm_P → Prop
  | [] => True
  | q :: tl => (decode cc q.1 = .ok (q.2.1, q.2.2.1) ∧ xm_lit q.2.1 = true) ∧ (xm_len q.2.1 = 0 ∨ q.2.2.1 = xm_len q.2.1) ∧ (∀ z r, tl = z :: r → z.1 = q.1 + q.2.2.1) ∧ xm_ch cc tl
/-- the same, as a program decides it -/
def xm_hd1 : xm_P → Option Nat
  | [] => none
  | q :: _ => some q.1
def xm_chb (cc : ByteArray) : xm_P → Bool
  | [] => true
  | q :: tl => (decide (decode cc q.1 = .ok (q.2.1, q.2.2.1)) && xm_lit q.2.1) && (decide (xm_len q.2.1 = 0) || decide (q.2.2.1 = xm_len q.2.1)) && (match xm_hd1 tl with | none => true | some z => decide (z = q.1 + q.2.2.1)) && xm_chb cc tl
theorem xm_ch_of {cc : ByteArray} : ∀ {pr : xm_P}, xm_chb cc pr = true → xm_ch cc pr
  | [], _ => trivial
  | q :: tl, h => by
    unfold xm_chb at h
    rw [Bool.and_eq_true, Bool.and_eq_true, Bool.and_eq_true, Bool.and_eq_true, Bool.or_eq_true, decide_eq_true_eq, decide_eq_true_eq, decide_eq_true_eq] at h
    obtain ⟨⟨⟨h1, h2⟩, h3⟩, h4⟩ := h
    refine ⟨h1, h2, fun z r e => ?_, xm_ch_of h4⟩
    subst e
    simpa [xm_hd1] using h3
theorem xm_at_ch {cc : ByteArray} (t : Nat) : ∀ {pr : xm_P}, xm_ch cc pr → xm_ch cc (xm_at pr t)
  | [], _ => trivial
  | q :: tl, h => by
    unfold xm_at
    cases Nat.beq q.1 t with
    | true => exact h
    | false => exact xm_at_ch t h.2.2.2
theorem xm_at_hd {t : Nat} : ∀ {pr : xm_P} {q : Nat × Jvm.ClassFile.Instr × Nat × Option (List Nat)} {tl : xm_P}, xm_at pr t = q :: tl → q.1 = t
  | [], _, _, h => by cases h
  | z :: r, q, tl, h => by
    unfold xm_at at h
    cases hb : Nat.beq z.1 t with
    | true =>
      rw [hb] at h
      have h1 : z = q := (List.cons.inj h).1
      rw [← h1]; exact Nat.eq_of_beq_eq_true hb
    | false => rw [hb] at h; exact xm_at_hd h
theorem xm_inL {ad : Nat → Nat} {ls : List (Nat × Value)} {n : Nat} {v : Value} (h : (n, v) ∈ ls) : (n, xm_v ad v) ∈ xm_L ad ls := List.mem_map.mpr ⟨(n, v), h, rfl⟩
theorem xm_in {ad : Nat → Nat} {ls : List (Nat × Value)} {n : Nat} {v : Value} {lsC : Array Slot} {nL : Nat} (hl : lv_has lsC nL (xm_L ad ls)) (h : (n, v) ∈ ls) : lsC[n]? = some (.val (xm_v ad v)) := hl.2.2 (n, xm_v ad v) (xm_inL h)
/-- some object of the class has an int at that field -/
def xm_isInt (tp : List xm_E) (ci kf : Nat) : Prop := ∃ (p : Nat) (fk : List (Option Nat)), tp[p]? = some (.inr (ci, fk)) ∧ fk[kf]? = some none
theorem xm_int_at {tp : List xm_E} {ci kf p : Nat} {fk : List (Option Nat)} (h : tp[p]? = some (.inr (ci, fk))) (h2 : fk[kf]? = some none) : xm_isInt tp ci kf := ⟨p, fk, h, h2⟩
/-- how memory, heap and what was written stand to each other -/
def xm_R (D : va_G) (cls : List vw_C) (A : Nat → Prop) (ad dA : Nat → Nat) (tp : List xm_E) (H0 : Heap) (M : xm_M) (cl : Nat) (H : Heap) (locs : List Loc) : Prop := va_P D cls (xm_W ad dA tp M) H ∧ va_S A H0 H locs ∧ (cl = 0 → H = H0 ∧ locs = [])
def xm_J (Wf : Nat → Heap → List Loc → JFrame → Prop) (m : MethodId) (Rl : xm_M → Nat → Heap → List Loc → Prop) (ad : Nat → Nat) (nL : Nat) (pc : Nat) (ls : List (Nat × Value)) (st : List Value) (M : xm_M) (cl : Nat) : Prop :=
  ∀ (H : Heap) (locs : List Loc) (lsC : Array Slot), Rl M cl H locs → lv_has lsC nL (xm_L ad ls) → Wf cl H locs (F0 m pc lsC (st.map (xm_v ad)))
/-- the three array types of a world -/
abbrev xm_tys (dA : Nat → Nat) : List (ClassId × FieldType) := [(dA 0, .int), (dA 1, .boolean), (dA 2, .long)]
def xm_ci (kd idx : Nat) : Jvm.ClassFile.Instr := match kd with
  | 0 => .invokevirtual idx
  | _ => .invokestatic idx
section XM
variable {P : Program} {l : Launch} {e : Env} {R : Room} {s : State} {m : MethodId} {args : Array Value} {below : List Frame} {meth : Method} {c : Code} {cf sf : Nat → Nat} {Q : State → Prop}
variable {cc : ByteArray} {D : va_G} {cls : List vw_C} {A : Nat → Prop} {ad dA : Nat → Nat} {tp : List xm_E} {nL : Nat} {own : String} {Ts : List Cond}
variable {sL : Nat} {sx : Nat → Int32} {pr : xm_P} {fl : List (Nat × Nat × Nat)} {ct : List (Nat × xm_C)} {cn : List (Nat × Int32)} {cj : List (Nat × Int64)} {rt : FieldType} {Qr : Option Value → xm_M → Nat → Prop} {Qt : Nat → Nat → xm_M → Nat → Prop}
/-- the fields that a class's pool names, as its tables have them -/
def xm_okF (own : String) (fl : List (Nat × Nat × Nat)) (cls : List vw_C) (Ts : List Cond) (args : Array Value) (s : State) : Prop := ∀ n ci kf, (n, ci, kf) ∈ fl → ∃ C T N, cls[ci]? = some (C, T, N) ∧ kf < N ∧ (∀ w ∈ u_ws C T N, w ∈ Ts) ∧
  ((Cond.fieldLink own n (T kf).1 (T kf).2.1 (T kf).2.2.1).before args s = true ∨ ∃ host, (Cond.fieldLinkNest own n (T kf).1 (T kf).2.1 (T kf).2.2.1 host).before args s = true)
def xm_okP (fl : List (Nat × Nat × Nat)) (cls : List vw_C) (tp : List xm_E) : Prop := ∀ n ci kf C T N, (n, ci, kf) ∈ fl → cls[ci]? = some (C, T, N) → xm_isInt tp ci kf → ∃ ty0 : Nat → FieldType, (∀ k, k < N → parseFieldDescriptor (T k).2.2.1 = some (ty0 k)) ∧ (∀ a, a < N → ∀ b, b < N → a ≠ b → (T a).2.1 ≠ (T b).2.1) ∧ (T kf).2.2.2 = false ∧ parseFieldDescriptor (T kf).2.2.1 = some .int
/-- what a call's row gives -/
def xm_okC (Wf : Nat → Heap → List Loc → JFrame → Prop) (m : MethodId) (Rl : xm_M → Nat → Heap → List Loc → Prop) (ad : Nat → Nat) (nL : Nat) (cc : ByteArray) (ct : List (Nat × xm_C)) : Prop := ∀ (kd n pc : Nat) (st : List Value) (M : xm_M) (cl : Nat) (tl : xm_P) (ls : List (Nat × Value)) (k : xm_K) (H : Heap) (locs : List Loc) (lsC : Array Slot),
  decode cc pc = .ok (xm_ci kd n, 3) → xm_call ct kd n k tl ls st M cl → Rl M cl H locs → lsC.size = nL →
  (∀ (st2 : List Value) (M2 : xm_M) (cl2 : Nat) (H1 : Heap) (locs1 : List Loc), k tl ls st2 M2 cl2 → Rl M2 cl2 H1 locs1 → Wf cl2 H1 locs1 (F0 m (pc + 3) lsC (st2.map (xm_v ad)))) → Wf cl H locs (F0 m pc lsC (st.map (xm_v ad)))
def xm_okI (Wf : Nat → Heap → List Loc → JFrame → Prop) (m : MethodId) (Rl : xm_M → Nat → Heap → List Loc → Prop) (cc : ByteArray) (rt : FieldType) (Qr : Option Value → xm_M → Nat → Prop) : Prop := ∀ (pc : Nat) (v : Int32) (M : xm_M) (cl : Nat) (H : Heap) (locs : List Loc) (lsC : Array Slot), decode cc pc = .ok (.ireturn, 1) → narrow rt (.int v) = .int v → Qr (some (.int v)) M cl → Rl M cl H locs → Wf cl H locs (F0 m pc lsC [.int v])
def xm_okJ (Wf : Nat → Heap → List Loc → JFrame → Prop) (m : MethodId) (Rl : xm_M → Nat → Heap → List Loc → Prop) (cc : ByteArray) (Qr : Option Value → xm_M → Nat → Prop) : Prop := ∀ (pc : Nat) (v : Int64) (M : xm_M) (cl : Nat) (H : Heap) (locs : List Loc) (lsC : Array Slot), decode cc pc = .ok (.lreturn, 1) → Qr (some (.long v)) M cl → Rl M cl H locs → Wf cl H locs (F0 m pc lsC [.long v])
def xm_okV (Wf : Nat → Heap → List Loc → JFrame → Prop) (m : MethodId) (Rl : xm_M → Nat → Heap → List Loc → Prop) (cc : ByteArray) (Qr : Option Value → xm_M → Nat → Prop) : Prop := ∀ (pc : Nat) (M : xm_M) (cl : Nat) (H : Heap) (locs : List Loc) (lsC : Array Slot), decode cc pc = .ok (.return_, 1) → Qr none M cl → Rl M cl H locs → Wf cl H locs (F0 m pc lsC [])
def xm_okT (Wf : Nat → Heap → List Loc → JFrame → Prop) (m : MethodId) (Rl : xm_M → Nat → Heap → List Loc → Prop) (nL : Nat) (cc : ByteArray) (Qt : Nat → Nat → xm_M → Nat → Prop) : Prop := ∀ (pc n : Nat) (M : xm_M) (cl : Nat) (H : Heap) (locs : List Loc) (lsC : Array Slot), decode cc pc = .ok (.new n, 3) → Qt pc n M cl → Rl M cl H locs → lsC.size = nL → Wf cl H locs (F0 m pc lsC [])
set_option maxHeartbeats 4000000 in
theorem xm_i_sound (hx : P.tables.exec = Jvm.exec) (hb : c.code = cc) (hown : s.vm.findClass own = some m.cls) (hts : ∀ w ∈ Ts, w.before args s = true) (hK : va_K D cls (xm_tys dA) s) (hD : ∀ M, va_D A (xm_W ad dA tp M))
    (hmono : ∀ n, cf n ≤ cf (n + 1) ∧ sf n ≤ sf (n + 1)) (hscr : 0 < sL → (va_X (ad 1000) (sL - 1) sx s s.heap ∧ ad 1000 < s.heap.size ∧ ¬ A (ad 1000)))
    (hcn : ∀ n v, (n, v) ∈ cn → (Jvm.Cond.constant own n v).before args s = true) (hcj : ∀ n v, (n, v) ∈ cj → (Jvm.Cond.constantLong own n v).before args s = true) (hfl : xm_okF own fl cls Ts args s) (hpf : xm_okP fl cls tp)
    (hcall : xm_okC (fun cl H locs g => W P l e R s m args below meth c H locs (cf cl) (sf cl) Q g) m (xm_R D cls A ad dA tp s.heap) ad nL cc ct)
    (hreti : xm_okI (fun cl H locs g => W P l e R s m args below meth c H locs (cf cl) (sf cl) Q g) m (xm_R D cls A ad dA tp s.heap) cc rt Qr)
    (hretj : xm_okJ (fun cl H locs g => W P l e R s m args below meth c H locs (cf cl) (sf cl) Q g) m (xm_R D cls A ad dA tp s.heap) cc Qr)
    (hretv : xm_okV (fun cl H locs g => W P l e R s m args below meth c H locs (cf cl) (sf cl) Q g) m (xm_R D cls A ad dA tp s.heap) cc Qr)
    (hthr : xm_okT (fun cl H locs g => W P l e R s m args below meth c H locs (cf cl) (sf cl) Q g) m (xm_R D cls A ad dA tp s.heap) nL cc Qt)
    {k : xm_K} (hch : xm_ch cc pr)
    (hk : ∀ (z : xm_P), xm_ch cc z → ∀ ls st M cl, k z ls st M cl → ∃ q t, z = q :: t ∧ xm_J (fun cl H locs g => W P l e R s m args below meth c H locs (cf cl) (sf cl) Q g) m (xm_R D cls A ad dA tp s.heap) ad nL q.1 ls st M cl)
    {pc len : Nat} {i : Jvm.ClassFile.Instr} {tl : xm_P} (hdg : decode cc pc = .ok (i, len)) (hlit : xm_lit i = true) (hlen : xm_len i = 0 ∨ len = xm_len i) (htl : ∀ z r, tl = z :: r → z.1 = pc + len) (hct : xm_ch cc tl)
    {ls : List (Nat × Value)} {st : List Value} {M : xm_M} {cl : Nat} (h : xm_i sL sx pr fl ct cn cj tp rt nL Qr Qt k pc i tl ls st M cl) :
    xm_J (fun cl H locs g => W P l e R s m args below meth c H locs (cf cl) (sf cl) Q g) m (xm_R D cls A ad dA tp s.heap) ad nL pc ls st M cl := by
  have kt : ∀ {ls : List (Nat × Value)} {st : List Value} {M : xm_M} {cl : Nat}, k tl ls st M cl → xm_J (fun cl H locs g => W P l e R s m args below meth c H locs (cf cl) (sf cl) Q g) m (xm_R D cls A ad dA tp s.heap) ad nL (pc + len) ls st M cl := by
    intro ls st M cl h
    obtain ⟨q, t, e1, h⟩ := hk tl hct ls st M cl h
    rw [htl q t e1] at h
    exact h
  have kj : ∀ {off : Int}, 0 ≤ (pc : Int) + off → ∀ {ls : List (Nat × Value)} {st : List Value} {M : xm_M} {cl : Nat}, k (xm_tg pr pc off) ls st M cl → xm_J (fun cl H locs g => W P l e R s m args below meth c H locs (cf cl) (sf cl) Q g) m (xm_R D cls A ad dA tp s.heap) ad nL ((pc : Int) + off).toNat ls st M cl := by
    intro off _ ls st M cl h
    obtain ⟨q, t, e1, h⟩ := hk _ (xm_at_ch _ hch) ls st M cl h
    rw [xm_at_hd e1] at h
    exact h
  have htys0 : (xm_tys dA)[0]? = some (dA 0, FieldType.int) := rfl
  have htys1 : (xm_tys dA)[1]? = some (dA 1, FieldType.boolean) := rfl
  have htys2 : (xm_tys dA)[2]? = some (dA 2, FieldType.long) := rfl
  have htysA : ∀ t, t < 3 → ∃ ty, (xm_tys dA)[t]? = some (dA t, ty) := by
    intro t ht
    match t, ht with
    | 0, _ => exact ⟨_, rfl⟩
    | 1, _ => exact ⟨_, rfl⟩
    | 2, _ => exact ⟨_, rfl⟩
  intro H locs lsC hR hl
  show W P l e R s m args below meth c H locs (cf cl) (sf cl) Q (F0 m pc lsC (st.map (xm_v ad)))
  cases i with
  | iconst n =>
    obtain rfl : len = 1 := hlen.resolve_left (show ¬ (1 : Nat) = 0 from by decide)
    exact lv_iconst hx hb hdg rfl (kt h H locs lsC hR hl)
  | bipush n =>
    obtain rfl : len = 2 := hlen.resolve_left (show ¬ (2 : Nat) = 0 from by decide)
    exact lv_bipush hx hb hdg (of_decide_eq_true hlit) (kt h H locs lsC hR hl)
  | sipush n =>
    obtain rfl : len = 3 := hlen.resolve_left (show ¬ (3 : Nat) = 0 from by decide)
    exact lv_sipush hx hb hdg (of_decide_eq_true hlit) (kt h H locs lsC hR hl)
  | ldc n =>
    obtain rfl : len = 2 := hlen.resolve_left (show ¬ (2 : Nat) = 0 from by decide)
    obtain ⟨v, e1, h⟩ := xm_op_of h
    exact lv_ldc hx hb hown (hcn n v (xm_lk_mem e1)) hdg (kt h H locs lsC hR hl)
  | ldc_w n =>
    obtain rfl : len = 3 := hlen.resolve_left (show ¬ (3 : Nat) = 0 from by decide)
    obtain ⟨v, e1, h⟩ := xm_op_of h
    exact lv_ldcw hx hb hown (hcn n v (xm_lk_mem e1)) hdg (kt h H locs lsC hR hl)
  | iload n =>
    obtain rfl : len = 2 := hlen.resolve_left (show ¬ (2 : Nat) = 0 from by decide)
    obtain ⟨x, e1, h⟩ := xm_li_of h
    exact lv_iload hx hb hdg (xm_in hl e1) (kt h H locs lsC hR hl)
  | iload_n n =>
    obtain rfl : len = 1 := hlen.resolve_left (show ¬ (1 : Nat) = 0 from by decide)
    obtain ⟨x, e1, h⟩ := xm_li_of h
    exact lv_iload_n hx hb hdg rfl (xm_in hl e1) (kt h H locs lsC hR hl)
  | aload n =>
    obtain rfl : len = 2 := hlen.resolve_left (show ¬ (2 : Nat) = 0 from by decide)
    obtain ⟨x, e1, h⟩ := xm_la_of h
    exact lv_aload hx hb hdg (xm_in hl e1) (kt h H locs lsC hR hl)
  | aload_n n =>
    obtain rfl : len = 1 := hlen.resolve_left (show ¬ (1 : Nat) = 0 from by decide)
    obtain ⟨x, e1, h⟩ := xm_la_of h
    exact lv_aload_n hx hb hdg rfl (xm_in hl e1) (kt h H locs lsC hR hl)
  | istore n =>
    obtain rfl : len = 2 := hlen.resolve_left (show ¬ (2 : Nat) = 0 from by decide)
    obtain ⟨hn, h⟩ := h
    obtain ⟨x, r, rfl, h⟩ := xm_p1_of h
    exact lv_istore hx hb hdg hl hn (by rw [xm_rm_L]; rfl) (fun ls2 hl2 => kt h H locs ls2 hR hl2)
  | istore_n n =>
    obtain rfl : len = 1 := hlen.resolve_left (show ¬ (1 : Nat) = 0 from by decide)
    obtain ⟨hn, h⟩ := h
    obtain ⟨x, r, rfl, h⟩ := xm_p1_of h
    exact lv_istore_n hx hb hdg rfl hl hn (by rw [xm_rm_L]; rfl) (fun ls2 hl2 => kt h H locs ls2 hR hl2)
  | astore n =>
    obtain rfl : len = 2 := hlen.resolve_left (show ¬ (2 : Nat) = 0 from by decide)
    obtain ⟨hn, h⟩ := h
    obtain ⟨x, r, rfl, h⟩ := xm_pA_of h
    exact lv_astore hx hb hdg hl hn (by rw [xm_rm_L]; rfl) (fun ls2 hl2 => kt h H locs ls2 hR hl2)
  | astore_n n =>
    obtain rfl : len = 1 := hlen.resolve_left (show ¬ (1 : Nat) = 0 from by decide)
    obtain ⟨hn, h⟩ := h
    obtain ⟨x, r, rfl, h⟩ := xm_pA_of h
    exact lv_astore_n hx hb hdg rfl hl hn (by rw [xm_rm_L]; rfl) (fun ls2 hl2 => kt h H locs ls2 hR hl2)
  | iinc n d =>
    obtain rfl : len = 3 := hlen.resolve_left (show ¬ (3 : Nat) = 0 from by decide)
    obtain ⟨hn, h⟩ := h
    obtain ⟨x, e1, h⟩ := xm_li_of h
    obtain ⟨j, hj⟩ := List.getElem?_of_mem (xm_inL (ad := ad) e1)
    exact lv_iinc (k := j) hx hb hdg hl hj rfl hn (by rw [xm_rm_L]; rfl) (fun ls2 hl2 => kt h H locs ls2 hR hl2)
  | iadd =>
    obtain rfl : len = 1 := hlen.resolve_left (show ¬ (1 : Nat) = 0 from by decide)
    obtain ⟨y, x, r, rfl, h⟩ := xm_p2_of h
    exact lv_iadd hx hb hdg (kt h H locs lsC hR hl)
  | isub =>
    obtain rfl : len = 1 := hlen.resolve_left (show ¬ (1 : Nat) = 0 from by decide)
    obtain ⟨y, x, r, rfl, h⟩ := xm_p2_of h
    exact lv_isub hx hb hdg (kt h H locs lsC hR hl)
  | imul =>
    obtain rfl : len = 1 := hlen.resolve_left (show ¬ (1 : Nat) = 0 from by decide)
    obtain ⟨y, x, r, rfl, h⟩ := xm_p2_of h
    exact lv_imul hx hb hdg (kt h H locs lsC hR hl)
  | iand =>
    obtain rfl : len = 1 := hlen.resolve_left (show ¬ (1 : Nat) = 0 from by decide)
    obtain ⟨y, x, r, rfl, h⟩ := xm_p2_of h
    exact lv_iand hx hb hdg (kt h H locs lsC hR hl)
  | ior =>
    obtain rfl : len = 1 := hlen.resolve_left (show ¬ (1 : Nat) = 0 from by decide)
    obtain ⟨y, x, r, rfl, h⟩ := xm_p2_of h
    exact lv_ior hx hb hdg (kt h H locs lsC hR hl)
  | ixor =>
    obtain rfl : len = 1 := hlen.resolve_left (show ¬ (1 : Nat) = 0 from by decide)
    obtain ⟨y, x, r, rfl, h⟩ := xm_p2_of h
    exact lv_ixor hx hb hdg (kt h H locs lsC hR hl)
  | ishl =>
    obtain rfl : len = 1 := hlen.resolve_left (show ¬ (1 : Nat) = 0 from by decide)
    obtain ⟨y, x, r, rfl, h⟩ := xm_p2_of h
    exact lv_ishl hx hb hdg (kt h H locs lsC hR hl)
  | ishr =>
    obtain rfl : len = 1 := hlen.resolve_left (show ¬ (1 : Nat) = 0 from by decide)
    obtain ⟨y, x, r, rfl, h⟩ := xm_p2_of h
    exact lv_ishr hx hb hdg (kt h H locs lsC hR hl)
  | iushr =>
    obtain rfl : len = 1 := hlen.resolve_left (show ¬ (1 : Nat) = 0 from by decide)
    obtain ⟨y, x, r, rfl, h⟩ := xm_p2_of h
    exact lv_iushr hx hb hdg rfl (kt h H locs lsC hR hl)
  | idiv =>
    obtain rfl : len = 1 := hlen.resolve_left (show ¬ (1 : Nat) = 0 from by decide)
    obtain ⟨y, x, r, rfl, hne, h⟩ := xm_p2_of h
    exact lv_idiv hx hb hdg hne (kt h H locs lsC hR hl)
  | irem =>
    obtain rfl : len = 1 := hlen.resolve_left (show ¬ (1 : Nat) = 0 from by decide)
    obtain ⟨y, x, r, rfl, hne, h⟩ := xm_p2_of h
    exact lv_irem hx hb hdg hne (kt h H locs lsC hR hl)
  | ineg =>
    obtain rfl : len = 1 := hlen.resolve_left (show ¬ (1 : Nat) = 0 from by decide)
    obtain ⟨x, r, rfl, h⟩ := xm_p1_of h
    exact lv_ineg hx hb hdg (kt h H locs lsC hR hl)
  | dup =>
    obtain rfl : len = 1 := hlen.resolve_left (show ¬ (1 : Nat) = 0 from by decide)
    obtain ⟨v, r, rfl, hv, h⟩ := xm_hd_of h
    exact lv_dup hx hb hdg ((xm_cat ad v).trans hv) (kt h H locs lsC hR hl)
  | pop =>
    obtain rfl : len = 1 := hlen.resolve_left (show ¬ (1 : Nat) = 0 from by decide)
    obtain ⟨v, r, rfl, hv, h⟩ := xm_hd_of h
    exact lv_pop hx hb hdg ((xm_cat ad v).trans hv) (kt h H locs lsC hR hl)
  | dup2 =>
    obtain rfl : len = 1 := hlen.resolve_left (show ¬ (1 : Nat) = 0 from by decide)
    obtain ⟨x, p, r, rfl, h⟩ := xm_pIA_of h
    exact lv_dup2_11 hx hb hdg rfl rfl (kt h H locs lsC hR hl)
  | dup_x1 =>
    obtain rfl : len = 1 := hlen.resolve_left (show ¬ (1 : Nat) = 0 from by decide)
    obtain ⟨x, p, r, rfl, h⟩ := xm_pIA_of h
    exact lv_dup_x1 hx hb hdg rfl rfl (kt h H locs lsC hR hl)
  | dup_x2 =>
    obtain rfl : len = 1 := hlen.resolve_left (show ¬ (1 : Nat) = 0 from by decide)
    obtain ⟨x, z, p, r, rfl, h⟩ := xm_pIIA_of h
    exact lv_dup_x2 hx hb hdg rfl rfl rfl (kt h H locs lsC hR hl)
  | goto off =>
    obtain rfl : len = 3 := hlen.resolve_left (show ¬ (3 : Nat) = 0 from by decide)
    obtain ⟨h0, h⟩ := h
    exact lv_goto hx hb hdg (Int.toNat_of_nonneg h0).symm (kj h0 h H locs lsC hR hl)
  | getfield n =>
    obtain rfl : len = 3 := hlen.resolve_left (show ¬ (3 : Nat) = 0 from by decide)
    obtain ⟨⟨ci, kf⟩, e1, h⟩ := xm_op_of h
    obtain ⟨p, r, rfl, h⟩ := xm_pA_of h
    obtain ⟨C, T, N, hc, hk, hin, hlk⟩ := hfl n ci kf (xm_lk_mem e1)
    obtain ⟨fk, o, e2, e3, h⟩ := xm_get_of h
    have hv : (fk.mapIdx (xm_f ad M p))[kf]? = some (xm_f ad M p kf o) := by simp [List.getElem?_mapIdx, e3]
    cases o with
    | some q => rcases hlk with hlk | ⟨host, hlk⟩
                · exact va_get hx hb hts hin hown hK hR.1 p (xm_W_at e2) hc kf hk hlk (fun _ z => z) hv hdg (kt h H locs lsC hR hl)
                · exact va_getN hx hb hts hin hown hK hR.1 p (xm_W_at e2) hc kf hk hlk (fun _ z => z) hv hdg (kt h H locs lsC hR hl)
    | none => rcases hlk with hlk | ⟨host, hlk⟩
              · exact va_get hx hb hts hin hown hK hR.1 p (xm_W_at e2) hc kf hk hlk (fun _ z => z) hv hdg (kt h H locs lsC hR hl)
              · exact va_getN hx hb hts hin hown hK hR.1 p (xm_W_at e2) hc kf hk hlk (fun _ z => z) hv hdg (kt h H locs lsC hR hl)
  | putfield n =>
    obtain rfl : len = 3 := hlen.resolve_left (show ¬ (3 : Nat) = 0 from by decide)
    obtain ⟨⟨ci, kf⟩, e1, h⟩ := xm_op_of h
    obtain ⟨x, p, r, rfl, h⟩ := xm_pIA_of h
    obtain ⟨C, T, N, hc, hk, hin, hlk⟩ := hfl n ci kf (xm_lk_mem e1)
    obtain ⟨fk, e2, e3, h⟩ := xm_put_of h
    obtain ⟨ty0, hty, hnm, hfin, hd⟩ := hpf n ci kf C T N (xm_lk_mem e1) hc (xm_int_at e2 e3)
    have hlen : kf < (fk.mapIdx (xm_f ad M p)).length := by
      rw [List.length_mapIdx]; exact (List.getElem?_eq_some_iff.mp e3).1
    have hset : (xm_W ad dA tp M).set p (ad p, .inr (ci, (fk.mapIdx (xm_f ad M p)).set kf (.int x))) = xm_W ad dA tp (xm_up M p kf x) := by
      rw [← xm_e_O (dA := dA) e3]; exact xm_W_set e2
    have kk : ∀ (H1 : Heap) (locs1 : List Loc), va_P D cls ((xm_W ad dA tp M).set p (ad p, .inr (ci, (fk.mapIdx (xm_f ad M p)).set kf (.int x)))) H1 → va_D A ((xm_W ad dA tp M).set p (ad p, .inr (ci, (fk.mapIdx (xm_f ad M p)).set kf (.int x)))) → va_S A s.heap H1 locs1 → W P l e R s m args below meth c H1 locs1 (cf cl) (sf cl) Q (F0 m (pc + 3) lsC (r.map (xm_v ad))) := by
      intro H1 locs1 a1 _ a3
      rw [hset] at a1
      exact W.widen (hmono cl).1 (hmono cl).2 (kt h H1 locs1 lsC ⟨a1, a3, fun z => by cases z⟩ hl)
    rcases hlk with hlk | ⟨host, hlk⟩
    · exact va_put hx hb hts hin ty0 hty hnm hown hK hR.1 (hD M) hR.2.1 p (xm_W_at e2) hc kf hk hlk (fun _ z => z) hfin hd rfl rfl hlen hdg kk
    · exact va_putN hx hb hts hin ty0 hty hnm hown hK hR.1 (hD M) hR.2.1 p (xm_W_at e2) hc kf hk hlk (fun _ z => z) hfin hd rfl rfl hlen hdg kk
  | iaload =>
    obtain rfl : len = 1 := hlen.resolve_left (show ¬ (1 : Nat) = 0 from by decide)
    obtain ⟨j, p, r, rfl, h⟩ := xm_pIA_of h
    rcases xm_ld_of h with ⟨n, e2, hin, h2⟩ | ⟨e2, e3, e4, hin, h2⟩
    · exact va_iald hx hb hK hR.1 p 0 (xm_W_at e2) htys0 hin hdg (kt h2 H locs lsC hR hl)
    · subst e2; exact va_sld hx hb (hscr e4).1 (hscr e4).2.1 (hscr e4).2.2 hR.2.1 hin hdg (kt h2 H locs lsC hR hl)
  | baload =>
    obtain rfl : len = 1 := hlen.resolve_left (show ¬ (1 : Nat) = 0 from by decide)
    obtain ⟨j, p, r, rfl, h⟩ := xm_pIA_of h
    rcases xm_ld_of h with ⟨n, e2, hin, h2⟩ | ⟨e2, e3, e4, hin, h2⟩
    · exact va_zald hx hb hK hR.1 p 1 (xm_W_at e2) htys1 hin hdg (kt h2 H locs lsC hR hl)
    · cases e3
  | iastore =>
    obtain rfl : len = 1 := hlen.resolve_left (show ¬ (1 : Nat) = 0 from by decide)
    obtain ⟨x, j, p, r, rfl, h⟩ := xm_pIIA_of h
    obtain ⟨n, e2, hin, h⟩ := xm_st_of h
    refine va_iast hx hb hK hR.1 (hD M) hR.2.1 p 0 (xm_W_at e2) htys0 hin hdg (fun H1 locs1 a1 _ a3 => ?_)
    skip
    rw [← xm_e_A (ad := ad), xm_W_set e2] at a1
    exact W.widen (hmono cl).1 (hmono cl).2 (kt h H1 locs1 lsC ⟨a1, a3, fun z => by cases z⟩ hl)
  | bastore =>
    obtain rfl : len = 1 := hlen.resolve_left (show ¬ (1 : Nat) = 0 from by decide)
    obtain ⟨x, j, p, r, rfl, hz, h⟩ := xm_pIIA_of h
    obtain ⟨n, e2, hin, h⟩ := xm_st_of h
    refine va_zast hx hb hK hR.1 (hD M) hR.2.1 p 1 (xm_W_at e2) htys1 hin hdg (fun H1 locs1 a1 _ a3 => ?_)
    rw [hz] at a1
    rw [← xm_e_A (ad := ad), xm_W_set e2] at a1
    exact W.widen (hmono cl).1 (hmono cl).2 (kt h H1 locs1 lsC ⟨a1, a3, fun z => by cases z⟩ hl)
  | laload =>
    obtain rfl : len = 1 := hlen.resolve_left (show ¬ (1 : Nat) = 0 from by decide)
    obtain ⟨j, p, r, rfl, h⟩ := xm_pIA_of h
    obtain ⟨n, e2, hin, h⟩ := xm_ldJ_of h
    exact va_lald hx hb hK hR.1 p 2 (xm_W_at e2) htys2 hin hdg (kt h H locs lsC hR hl)
  | lastore =>
    obtain rfl : len = 1 := hlen.resolve_left (show ¬ (1 : Nat) = 0 from by decide)
    obtain ⟨x, j, p, r, rfl, h⟩ := xm_pJIA_of h
    obtain ⟨n, y, e2, rfl, hin, h⟩ := xm_stJ_of h
    refine va_last hx hb hK hR.1 (hD M) hR.2.1 p 2 (xm_W_at e2) htys2 hin hdg (fun H1 locs1 a1 _ a3 => ?_)
    rw [← xm_e_L (ad := ad), xm_W_set e2] at a1
    exact W.widen (hmono cl).1 (hmono cl).2 (kt h H1 locs1 lsC ⟨a1, a3, fun z => by cases z⟩ hl)
  | i2l =>
    obtain rfl : len = 1 := hlen.resolve_left (show ¬ (1 : Nat) = 0 from by decide)
    obtain ⟨x, r, rfl, h⟩ := xm_p1_of h
    exact lv_i2l hx hb hdg rfl (kt h H locs lsC hR hl)
  | arraylength =>
    obtain rfl : len = 1 := hlen.resolve_left (show ¬ (1 : Nat) = 0 from by decide)
    obtain ⟨p, r, rfl, h⟩ := xm_pA_of h
    rcases xm_al_of h with ⟨t, n, b, e2, ht, h2⟩ | ⟨e2, e4, h2⟩
    rotate_left
    · subst e2; exact va_slen hx hb (hscr e4).1 (hscr e4).2.1 (hscr e4).2.2 hR.2.1 hdg (kt h2 H locs lsC hR hl)
    obtain ⟨ty, hty⟩ := htysA t ht
    cases b with
    | false => exact va_alen hx hb hK hR.1 p t (x := (n, .inl (M p))) (xm_W_at e2) hty rfl hdg (kt h2 H locs lsC hR hl)
    | true => exact va_alen hx hb hK hR.1 p t (x := (n, .inr (.inl (fun i => (M p i).toInt64)))) (xm_W_at e2) hty rfl hdg (kt h2 H locs lsC hR hl)
  | invokevirtual n =>
    obtain rfl : len = 3 := hlen.resolve_left (show ¬ (3 : Nat) = 0 from by decide)
    exact hcall 0 n pc st M cl tl ls k H locs lsC hdg h hR hl.1 (fun st2 M2 cl2 H1 locs1 h2 hR2 => kt h2 H1 locs1 lsC hR2 hl)
  | invokestatic n =>
    obtain rfl : len = 3 := hlen.resolve_left (show ¬ (3 : Nat) = 0 from by decide)
    exact hcall 1 n pc st M cl tl ls k H locs lsC hdg h hR hl.1 (fun st2 M2 cl2 H1 locs1 h2 hR2 => kt h2 H1 locs1 lsC hR2 hl)
  | ireturn =>
    obtain rfl : len = 1 := hlen.resolve_left (show ¬ (1 : Nat) = 0 from by decide)
    obtain ⟨v, rfl, hn, h⟩ := xm_one_of h
    exact hreti pc v M cl H locs lsC hdg hn h hR
  | return_ =>
    obtain rfl : len = 1 := hlen.resolve_left (show ¬ (1 : Nat) = 0 from by decide)
    obtain ⟨rfl, h⟩ := xm_nil_of h
    exact hretv pc M cl H locs lsC hdg h hR
  | new n =>
    obtain rfl : len = 3 := hlen.resolve_left (show ¬ (3 : Nat) = 0 from by decide)
    obtain ⟨rfl, h⟩ := xm_nil_of h
    exact hthr pc n M cl H locs lsC hdg h hR hl.1
  | tableswitch d lo hi offs =>
    obtain ⟨x, r, rfl, h1, h3, h4⟩ := xm_p1_of h
    by_cases hx1 : x.toInt < lo ∨ hi < x.toInt
    · obtain ⟨h0, h⟩ := h1 hx1
      exact lv_tableOut hx hb hdg hx1 (Int.toNat_of_nonneg h0).symm (kj h0 h H locs lsC hR hl)
    · have hlo : ¬ x.toInt < lo := fun z => hx1 (Or.inl z)
      have hhi : ¬ hi < x.toInt := fun z => hx1 (Or.inr z)
      obtain ⟨o, ho, h0, h⟩ := xm_tb_of h4 (x.toInt - lo).toNat (by rw [Array.length_toList]; omega) (by omega)
      exact lv_tableIn hx hb hdg hlo hhi (by rw [← Array.getElem?_toList]; exact ho) (Int.toNat_of_nonneg h0).symm (kj h0 h H locs lsC hR hl)
  | lookupswitch d ps =>
    obtain ⟨x, r, rfl, h1, h2⟩ := xm_p1_of h
    obtain ⟨h0, h⟩ := xm_lp_of h2
    exact lv_lookup hx hb hdg h1 rfl (Int.toNat_of_nonneg h0).symm (kj h0 h H locs lsC hR hl)
  | lconst n =>
    obtain rfl : len = 1 := hlen.resolve_left (show ¬ (1 : Nat) = 0 from by decide)
    exact lv_lconst hx hb hdg rfl (kt h H locs lsC hR hl)
  | ldc2_w n =>
    obtain rfl : len = 3 := hlen.resolve_left (show ¬ (3 : Nat) = 0 from by decide)
    obtain ⟨v, e1, h⟩ := xm_op_of h
    exact lv_ldc2 hx hb hown (hcj n v (xm_lk_mem e1)) hdg (kt h H locs lsC hR hl)
  | lload n =>
    obtain rfl : len = 2 := hlen.resolve_left (show ¬ (2 : Nat) = 0 from by decide)
    obtain ⟨x, e1, h⟩ := xm_ll_of h
    exact lv_lload hx hb hdg (xm_in hl e1) (kt h H locs lsC hR hl)
  | lload_n n =>
    obtain rfl : len = 1 := hlen.resolve_left (show ¬ (1 : Nat) = 0 from by decide)
    obtain ⟨x, e1, h⟩ := xm_ll_of h
    exact lv_lload_n hx hb hdg rfl (xm_in hl e1) (kt h H locs lsC hR hl)
  | lstore n =>
    obtain rfl : len = 2 := hlen.resolve_left (show ¬ (2 : Nat) = 0 from by decide)
    obtain ⟨hn, h⟩ := h
    obtain ⟨x, r, rfl, h⟩ := xm_pJ_of h
    exact lv_lstore hx hb hdg hl hn (by rw [xm_rm2_L]; rfl) (fun ls2 hl2 => kt h H locs ls2 hR hl2)
  | lstore_n n =>
    obtain rfl : len = 1 := hlen.resolve_left (show ¬ (1 : Nat) = 0 from by decide)
    obtain ⟨hn, h⟩ := h
    obtain ⟨x, r, rfl, h⟩ := xm_pJ_of h
    exact lv_lstore_n hx hb hdg rfl hl hn (by rw [xm_rm2_L]; rfl) (fun ls2 hl2 => kt h H locs ls2 hR hl2)
  | ladd =>
    obtain rfl : len = 1 := hlen.resolve_left (show ¬ (1 : Nat) = 0 from by decide)
    obtain ⟨y, x, r, rfl, h⟩ := xm_pJJ_of h
    exact lv_ladd hx hb hdg (kt h H locs lsC hR hl)
  | lsub =>
    obtain rfl : len = 1 := hlen.resolve_left (show ¬ (1 : Nat) = 0 from by decide)
    obtain ⟨y, x, r, rfl, h⟩ := xm_pJJ_of h
    exact lv_lsub hx hb hdg (kt h H locs lsC hR hl)
  | lmul =>
    obtain rfl : len = 1 := hlen.resolve_left (show ¬ (1 : Nat) = 0 from by decide)
    obtain ⟨y, x, r, rfl, h⟩ := xm_pJJ_of h
    exact lv_lmul hx hb hdg (kt h H locs lsC hR hl)
  | ldiv =>
    obtain rfl : len = 1 := hlen.resolve_left (show ¬ (1 : Nat) = 0 from by decide)
    obtain ⟨y, x, r, rfl, hne, h⟩ := xm_pJJ_of h
    exact lv_ldiv hx hb hdg hne (kt h H locs lsC hR hl)
  | lrem =>
    obtain rfl : len = 1 := hlen.resolve_left (show ¬ (1 : Nat) = 0 from by decide)
    obtain ⟨y, x, r, rfl, hne, h⟩ := xm_pJJ_of h
    exact lv_lrem hx hb hdg hne (kt h H locs lsC hR hl)
  | lneg =>
    obtain rfl : len = 1 := hlen.resolve_left (show ¬ (1 : Nat) = 0 from by decide)
    obtain ⟨x, r, rfl, h⟩ := xm_pJ_of h
    exact lv_lneg hx hb hdg (kt h H locs lsC hR hl)
  | lcmp =>
    obtain rfl : len = 1 := hlen.resolve_left (show ¬ (1 : Nat) = 0 from by decide)
    obtain ⟨y, x, r, rfl, h⟩ := xm_pJJ_of h
    exact W.lcmp hx hb hdg (kt h H locs lsC hR hl)
  | l2i =>
    obtain rfl : len = 1 := hlen.resolve_left (show ¬ (1 : Nat) = 0 from by decide)
    obtain ⟨x, r, rfl, h⟩ := xm_pJ_of h
    exact lv_l2i hx hb hdg rfl (kt h H locs lsC hR hl)
  | lreturn =>
    obtain rfl : len = 1 := hlen.resolve_left (show ¬ (1 : Nat) = 0 from by decide)
    obtain ⟨v, rfl, h⟩ := xm_oneJ_of h
    exact hretj pc v M cl H locs lsC hdg h hR
  | ifCond cd off =>
    obtain rfl : len = 3 := hlen.resolve_left (show ¬ (3 : Nat) = 0 from by decide)
    cases cd with
    | eq =>
      obtain ⟨h0, h⟩ := h
      obtain ⟨x, r, rfl, h1, h2⟩ := xm_p1_of h
      exact lv_if_eq hx hb hdg (Int.toNat_of_nonneg h0).symm (fun q => kj h0 (h1 q) H locs lsC hR hl) (fun q => kt (h2 q) H locs lsC hR hl)
    | ne =>
      obtain ⟨h0, h⟩ := h
      obtain ⟨x, r, rfl, h1, h2⟩ := xm_p1_of h
      exact lv_if_ne hx hb hdg (Int.toNat_of_nonneg h0).symm (fun q => kj h0 (h1 q) H locs lsC hR hl) (fun q => kt (h2 q) H locs lsC hR hl)
    | lt =>
      obtain ⟨h0, h⟩ := h
      obtain ⟨x, r, rfl, h1, h2⟩ := xm_p1_of h
      exact lv_if_lt hx hb hdg (Int.toNat_of_nonneg h0).symm (fun q => kj h0 (h1 q) H locs lsC hR hl) (fun q => kt (h2 q) H locs lsC hR hl)
    | ge =>
      obtain ⟨h0, h⟩ := h
      obtain ⟨x, r, rfl, h1, h2⟩ := xm_p1_of h
      exact lv_if_ge hx hb hdg (Int.toNat_of_nonneg h0).symm (fun q => kj h0 (h1 q) H locs lsC hR hl) (fun q => kt (h2 q) H locs lsC hR hl)
    | gt =>
      obtain ⟨h0, h⟩ := h
      obtain ⟨x, r, rfl, h1, h2⟩ := xm_p1_of h
      exact lv_if_gt hx hb hdg (Int.toNat_of_nonneg h0).symm (fun q => kj h0 (h1 q) H locs lsC hR hl) (fun q => kt (h2 q) H locs lsC hR hl)
    | le =>
      obtain ⟨h0, h⟩ := h
      obtain ⟨x, r, rfl, h1, h2⟩ := xm_p1_of h
      exact lv_if_le hx hb hdg (Int.toNat_of_nonneg h0).symm (fun q => kj h0 (h1 q) H locs lsC hR hl) (fun q => kt (h2 q) H locs lsC hR hl)
  | if_icmp cd off =>
    obtain rfl : len = 3 := hlen.resolve_left (show ¬ (3 : Nat) = 0 from by decide)
    cases cd with
    | eq =>
      obtain ⟨h0, h⟩ := h
      obtain ⟨y, x, r, rfl, h1, h2⟩ := xm_p2_of h
      exact lv_icmp_eq hx hb hdg (Int.toNat_of_nonneg h0).symm (fun q => kj h0 (h1 q) H locs lsC hR hl) (fun q => kt (h2 q) H locs lsC hR hl)
    | ne =>
      obtain ⟨h0, h⟩ := h
      obtain ⟨y, x, r, rfl, h1, h2⟩ := xm_p2_of h
      exact lv_icmp_ne hx hb hdg (Int.toNat_of_nonneg h0).symm (fun q => kj h0 (h1 q) H locs lsC hR hl) (fun q => kt (h2 q) H locs lsC hR hl)
    | lt =>
      obtain ⟨h0, h⟩ := h
      obtain ⟨y, x, r, rfl, h1, h2⟩ := xm_p2_of h
      exact lv_icmp_lt hx hb hdg (Int.toNat_of_nonneg h0).symm (fun q => kj h0 (h1 q) H locs lsC hR hl) (fun q => kt (h2 q) H locs lsC hR hl)
    | ge =>
      obtain ⟨h0, h⟩ := h
      obtain ⟨y, x, r, rfl, h1, h2⟩ := xm_p2_of h
      exact lv_icmp_ge hx hb hdg (Int.toNat_of_nonneg h0).symm (fun q => kj h0 (h1 q) H locs lsC hR hl) (fun q => kt (h2 q) H locs lsC hR hl)
    | gt =>
      obtain ⟨h0, h⟩ := h
      obtain ⟨y, x, r, rfl, h1, h2⟩ := xm_p2_of h
      exact lv_icmp_gt hx hb hdg (Int.toNat_of_nonneg h0).symm (fun q => kj h0 (h1 q) H locs lsC hR hl) (fun q => kt (h2 q) H locs lsC hR hl)
    | le =>
      obtain ⟨h0, h⟩ := h
      obtain ⟨y, x, r, rfl, h1, h2⟩ := xm_p2_of h
      exact lv_icmp_le hx hb hdg (Int.toNat_of_nonneg h0).symm (fun q => kj h0 (h1 q) H locs lsC hR hl) (fun q => kt (h2 q) H locs lsC hR hl)
  | _ => exact False.elim h
/-- what holds where the walk begins, and at its cuts, holds of the machine -/
theorem xm_sound (hx : P.tables.exec = Jvm.exec) (hb : c.code = cc) (hown : s.vm.findClass own = some m.cls) (hts : ∀ w ∈ Ts, w.before args s = true) (hK : va_K D cls (xm_tys dA) s) (hD : ∀ M, va_D A (xm_W ad dA tp M))
    (hmono : ∀ n, cf n ≤ cf (n + 1) ∧ sf n ≤ sf (n + 1)) (hscr : 0 < sL → (va_X (ad 1000) (sL - 1) sx s s.heap ∧ ad 1000 < s.heap.size ∧ ¬ A (ad 1000)))
    (hcn : ∀ n v, (n, v) ∈ cn → (Jvm.Cond.constant own n v).before args s = true) (hcj : ∀ n v, (n, v) ∈ cj → (Jvm.Cond.constantLong own n v).before args s = true) (hfl : xm_okF own fl cls Ts args s) (hpf : xm_okP fl cls tp)
    (hcall : xm_okC (fun cl H locs g => W P l e R s m args below meth c H locs (cf cl) (sf cl) Q g) m (xm_R D cls A ad dA tp s.heap) ad nL cc ct)
    (hreti : xm_okI (fun cl H locs g => W P l e R s m args below meth c H locs (cf cl) (sf cl) Q g) m (xm_R D cls A ad dA tp s.heap) cc rt Qr)
    (hretj : xm_okJ (fun cl H locs g => W P l e R s m args below meth c H locs (cf cl) (sf cl) Q g) m (xm_R D cls A ad dA tp s.heap) cc Qr)
    (hretv : xm_okV (fun cl H locs g => W P l e R s m args below meth c H locs (cf cl) (sf cl) Q g) m (xm_R D cls A ad dA tp s.heap) cc Qr)
    (hthr : xm_okT (fun cl H locs g => W P l e R s m args below meth c H locs (cf cl) (sf cl) Q g) m (xm_R D cls A ad dA tp s.heap) nL cc Qt)
    (hch : xm_ch cc pr) {K : Nat → List (Nat × Value) → List Value → xm_M → Nat → Prop}
    (hcut : ∀ pc ls st M cl, K pc ls st M cl → xm_J (fun cl H locs g => W P l e R s m args below meth c H locs (cf cl) (sf cl) Q g) m (xm_R D cls A ad dA tp s.heap) ad nL pc ls st M cl) :
    ∀ (n : Nat) (b : Bool) (z : xm_P), xm_ch cc z → ∀ ls st M cl, xm_w sL sx pr fl ct cn cj tp rt nL Qr Qt K n b z ls st M cl → ∃ q t, z = q :: t ∧ xm_J (fun cl H locs g => W P l e R s m args below meth c H locs (cf cl) (sf cl) Q g) m (xm_R D cls A ad dA tp s.heap) ad nL q.1 ls st M cl := by
  intro n
  induction n with
  | zero => intro b z _ ls st M cl h; cases z <;> exact False.elim h
  | succ n ih =>
    intro b z hz ls st M cl h
    cases z with
    | nil => exact False.elim h
    | cons q tl =>
      refine ⟨q, tl, rfl, ?_⟩
      unfold xm_w at h
      obtain ⟨pc0, i0, n0, o0⟩ := q
      cases b with
      | true =>
        cases o0 with
        | some lv => exact fun H locs lsC hR hl => hcut _ _ _ _ _ h H locs lsC hR (xm_lv_has hl)
        | none => exact xm_i_sound hx hb hown hts hK hD hmono hscr hcn hcj hfl hpf hcall hreti hretj hretv hthr hch (fun z2 hz2 ls2 st2 M2 cl2 h2 => ih true z2 hz2 ls2 st2 M2 cl2 h2) hz.1.1 hz.1.2 hz.2.1 hz.2.2.1 hz.2.2.2 h
      | false =>
        exact xm_i_sound hx hb hown hts hK hD hmono hscr hcn hcj hfl hpf hcall hreti hretj hretv hthr hch (fun z2 hz2 ls2 st2 M2 cl2 h2 => ih true z2 hz2 ls2 st2 M2 cl2 h2) hz.1.1 hz.1.2 hz.2.1 hz.2.2.1 hz.2.2.2 h
end XM
end
section
/-! CONTRACTS over the small machine: what a method asks and answers; a call's row out of a contract -/
def xm_Nw (ns : List Cond) (U : State) : Prop := ∀ w ∈ ns, va_Nw w U
def xm_isN (w : Cond) : Bool := match w with
  | .methodLinkNest .. => true
  | .fieldLinkNest .. => true
  | .castable .. => true
  | .declares .. => true
  | _ => false
theorem xm_Nw.warm {ns : List Cond} (hn : ∀ w ∈ ns, xm_isN w = true) {s U : State} (hW : s.WarmedH U.vm) (h : xm_Nw ns s) : xm_Nw ns U := by
  intro w hw
  have h1 := hn w hw
  have h2 := h w hw
  cases w <;> first | exact va_Nw.warmM hW h2 | exact va_Nw.warmF hW h2 | exact va_Nw.warmC hW h2 | exact va_Nw.warmD hW h2 | exact nomatch h1
theorem xm_Nw.same {ns : List Cond} (hn : ∀ w ∈ ns, xm_isN w = true) {s U : State} (e : s.vm = U.vm) (h : xm_Nw ns s) : xm_Nw ns U := by
  intro w hw
  have h1 := hn w hw
  have h2 := h w hw
  cases w <;> first | exact va_Nw.same rfl e h2 | exact nomatch h1
def xm_A (ad : Nat → Nat) (n : Nat) : Nat → Prop := fun q => ∃ k, k < n ∧ q = ad k
def xm_inj (ad : Nat → Nat) (n : Nat) : Prop := ∀ i j, i < n → j < n → ad i = ad j → i = j
/-- a contract's start -/
abbrev xm_pc (cls : List vw_C) (ns : List Cond) (tp : List xm_E) (dC : Nat → ClassId) (dI : Nat → Nat → Nat) (dA ad : Nat → Nat) (as : List Value) (M : xm_M) : Array Value → State → Prop := va_Pc (as.map (xm_v ad)) (fun U => va_P (dC, dI) cls (xm_W ad dA tp M) U.heap ∧ va_K (dC, dI) cls (xm_tys dA) U ∧ xm_Nw ns U)
/-- a method that writes nothing -/
def xm_Pu (l : Launch) (y : MethodName) (ws : List Cond) (rm : Room) (cls : List vw_C) (ns : List Cond) (tp : List xm_E) (pre : List Value → xm_M → Prop) (fn : List Value → xm_M → Option Value × xm_M) : Prop :=
  ∀ (dC : Nat → ClassId) (dI : Nat → Nat → Nat) (dA ad : Nat → Nat) (as : List Value) (M : xm_M), pre as M → xm_inj ad tp.length → Met l y ws rm (xm_pc cls ns tp dC dI dA ad as M) (fun _ st o t => o = .returned ((fn as M).1.map (xm_v ad)) ∧ t.heap = st.heap) 0 0 (fun _ => False)
/-- a method that writes within its world -/
def xm_Wr (l : Launch) (y : MethodName) (ws : List Cond) (rm : Room) (cls : List vw_C) (ns : List Cond) (tp : List xm_E) (pre : List Value → xm_M → Prop) (fn : List Value → xm_M → Option Value × xm_M) : Prop :=
  ∀ (dC : Nat → ClassId) (dI : Nat → Nat → Nat) (dA ad : Nat → Nat) (as : List Value) (M : xm_M), pre as M → xm_inj ad tp.length → Met l y ws rm (xm_pc cls ns tp dC dI dA ad as M) (fun _ st o t => o = .returned ((fn as M).1.map (xm_v ad)) ∧ va_P (dC, dI) cls (xm_W ad dA tp (fn as M).2) t.heap ∧ va_F (xm_A ad tp.length) st t) 0 0 (xm_A ad tp.length)
theorem xm_blind {cls : List vw_C} {ns : List Cond} (hn : ∀ w ∈ ns, xm_isN w = true) {tp : List xm_E} {dC : Nat → ClassId} {dI : Nat → Nat → Nat} {dA ad : Nat → Nat} {as : List Value} {M : xm_M} : FrameBlind (xm_pc cls ns tp dC dI dA ad as M) := by
  intro a U g mk q
  obtain ⟨q0, qP, qK, qN⟩ := q
  exact ⟨q0, qP, va_K.moved (u := U) (U := U.calling g mk a) (Vm.Alike.refl U.vm) qK, xm_Nw.same (s := U) (U := U.calling g mk a) hn rfl qN⟩
section XMC
variable {p : Program} {l : Launch} {e : Env} {R : Room} {s : State} {m : MethodId} {args : Array Value} {below : List Frame} {meth : Method} {c : Code} {H : Heap} {locs : List Loc} {cells slots : Nat} {Q : State → Prop}
variable {g : JFrame} {rest : List Value}
/-- behind a call that wrote nothing -/
theorem xm_back {v0 : Option Value} {Qa : State → Outcome → State → Prop} (hr : va_Run p l e R s m args below meth c H locs cells slots 0 0 g rest Qa (fun _ => False)) (hq : ∀ st o t, Qa st o t → o = .returned v0 ∧ t.heap = st.heap)
    (kk : W p l e R s m args below meth c H locs cells slots Q { g with pc := g.pc + 3, stack := v0.toList ++ rest }) : W p l e R s m args below meth c H locs cells slots Q g := by
  intro T hT X
  obtain ⟨v, st₀, t, T', L, h0, X', hL, e1, e2, hqa, st⟩ := hr T hT X
  obtain ⟨hv, hh⟩ := hq _ _ _ hqa
  cases hv
  have hL0 : L = [] := by
    cases L with
    | nil => rfl
    | cons a r => exact (hL a List.mem_cons_self).elim
  subst hL0
  rw [List.append_nil] at X'
  obtain ⟨t2, a1, b1⟩ := kk T' (by rw [e1, hh, h0]) X'
  exact ⟨t2, st t2 a1, b1⟩
/-- behind a call that wrote within A -/
theorem xm_backW {v0 : Option Value} {A A0 : Nat → Prop} {H0 : Heap} {PW : Heap → Prop} {Qa : State → Outcome → State → Prop} (hr : va_Run p l e R s m args below meth c H locs cells slots 0 0 g rest Qa A) (hA : ∀ q, A q → A0 q) (hS : va_S A0 H0 H locs)
    (hq : ∀ st o t, Qa st o t → o = .returned v0 ∧ PW t.heap ∧ va_F A st t)
    (kk : ∀ (H1 : Heap) (locs1 : List Loc), PW H1 → va_S A0 H0 H1 locs1 → W p l e R s m args below meth c H1 locs1 cells slots Q { g with pc := g.pc + 3, stack := v0.toList ++ rest }) : W p l e R s m args below meth c H locs cells slots Q g := by
  intro T hT X
  obtain ⟨v, st₀, t, T', L, h0, X', hL, e1, e2, hqa, st⟩ := hr T hT X
  obtain ⟨hv, hP, hF⟩ := hq _ _ _ hqa
  cases hv
  have hS1 : va_S A0 H0 t.heap (locs ++ L) := by
    refine ⟨Nat.le_trans hS.1 (by rw [← h0]; exact hF.1), fun q hq1 hq2 => ?_, fun x hx => ?_⟩
    · have h1 : q < st₀.heap.size := by rw [h0]; exact Nat.lt_of_lt_of_le hq1 hS.1
      rw [hF.2 q h1 (fun z => hq2 (hA q z)), h0]
      exact hS.2.1 q hq1 hq2
    · rcases List.mem_append.mp hx with h1 | h1
      · exact hS.2.2 x h1
      · exact hA _ (hL x h1)
  obtain ⟨t2, a1, b1⟩ := kk t.heap (locs ++ L) hP hS1 T' e1 X'
  exact ⟨t2, st t2 a1, b1⟩
end XMC
/-- one call's row -/
def xm_row (Wf : Nat → Heap → List Loc → JFrame → Prop) (m : MethodId) (Rl : xm_M → Nat → Heap → List Loc → Prop) (ad : Nat → Nat) (nL : Nat) (cc : ByteArray) (n : Nat) (C : xm_C) : Prop := ∀ (pc : Nat) (as rest : List Value) (M : xm_M) (cl : Nat) (H : Heap) (locs : List Loc) (lsC : Array Slot),
  as.length = C.2.1 → decode cc pc = .ok (xm_ci C.1 n, 3) → (rest.map (fun v => v.category)).sum ≤ 8 → C.2.2.2.1 as M → Rl M cl H locs → lsC.size = nL →
  (∀ (H1 : Heap) (locs1 : List Loc), Rl (xm_mem C as M) (cl + C.2.2.1) H1 locs1 → Wf (cl + C.2.2.1) H1 locs1 (F0 m (pc + 3) lsC (((C.2.2.2.2 as M).1.toList ++ rest).map (xm_v ad)))) → Wf cl H locs (F0 m pc lsC ((as.reverse ++ rest).map (xm_v ad)))
theorem xm_okC_of {Wf : Nat → Heap → List Loc → JFrame → Prop} {m : MethodId} {Rl : xm_M → Nat → Heap → List Loc → Prop} {ad : Nat → Nat} {nL : Nat} {cc : ByteArray} {ct : List (Nat × xm_C)} (h : ∀ n C, (n, C) ∈ ct → xm_row Wf m Rl ad nL cc n C) : xm_okC Wf m Rl ad nL cc ct := by
  intro kd n pc st M cl tl ls k H locs lsC hdg hc hR hsz kk
  unfold xm_call at hc
  cases hl : xm_lk ct n with
  | none => rw [hl] at hc; exact False.elim hc
  | some C =>
    rw [hl] at hc
    obtain ⟨e1, hn, hr, hp, hk⟩ := hc
    subst e1
    have hst : ((st.take C.2.1).reverse).reverse ++ st.drop C.2.1 = st := by rw [List.reverse_reverse, List.take_append_drop]
    have h1 := h n C (xm_lk_mem hl) pc (st.take C.2.1).reverse (st.drop C.2.1) M cl H locs lsC (by rw [List.length_reverse, List.length_take]; omega) hdg hr hp hR hsz (fun H1 locs1 hR1 => kk _ _ _ H1 locs1 (xm_aft_of hk) hR1)
    rw [hst] at h1
    exact h1
theorem xm_catmap (ad : Nat → Nat) (st : List Value) : ((st.map (xm_v ad)).map (fun v => v.category)) = st.map (fun v => v.category) := by
  rw [List.map_map]
  apply List.map_congr_left
  intro v _
  exact xm_cat ad v
/-- words that a call may hand on -/
def xm_good (Ts : List Cond) : Prop := ∀ w ∈ Ts, (w.onTables && w.keeps) = true ∨ ∃ ty, w = .arrayClass ty
/-- what links a call by the pool's row n of class own to a contract -/
def xm_lkB (own : String) (Ts : List Cond) (rm rmC : Room) (n : Nat) (y : MethodName) (bytes : ByteArray) (maxL : Nat) (ret : Option FieldType) (np : Nat) : Prop :=
  Cond.code y bytes maxL ret ∈ Ts ∧ Cond.initialized y.cls ∈ Ts ∧ (y.cls ≠ "java/lang/invoke/MethodHandle" ∧ y.cls ≠ "java/lang/invoke/VarHandle" ∧ (parseMethodDescriptor y.desc).map (fun d => d.parameters.length) = some np) ∧ (rmC.frames + 1 ≤ rm.frames ∧ 8 + (maxL + 11) + rmC.locals ≤ rm.locals) ∧ rmC.cells = 0 ∧ rmC.slots = 0
/-- static, in the own class or seen from it -/
def xm_lkS (l : Launch) (own : String) (Ts ns : List Cond) (rm : Room) (cls : List vw_C) (tp : List xm_E) (n : Nat) (C : xm_C) : Prop := ∃ (y : MethodName) (bytes : ByteArray) (maxL : Nat) (ret : Option FieldType) (rmC : Room), C.1 = 1 ∧ xm_lkB own Ts rm rmC n y bytes maxL ret C.2.1 ∧ Cond.static y ∈ Ts ∧
  (Cond.methodLink own n y ∈ Ts ∨ ∃ host, Cond.methodLinkNest own n y host ∈ ns) ∧
  ((C.2.2.1 = 0 ∧ (∀ as M, (C.2.2.2.2 as M).2 = M) ∧ xm_Pu l y (Cond.code y bytes maxL ret :: Ts) rmC cls ns tp C.2.2.2.1 C.2.2.2.2) ∨ (C.2.2.1 = 1 ∧ xm_Wr l y (Cond.code y bytes maxL ret :: Ts) rmC cls ns tp C.2.2.2.1 C.2.2.2.2))
/-- virtual, on the one object at a place -/
def xm_lkV (l : Launch) (own : String) (Ts ns : List Cond) (rm : Room) (cls : List vw_C) (tp : List xm_E) (n : Nat) (C : xm_C) : Prop := ∃ (y : MethodName) (bytes : ByteArray) (maxL : Nat) (ret : Option FieldType) (rmC : Room) (np q0 ci : Nat) (fk : List (Option Nat)) (T : u_T) (N : Nat), C.1 = 0 ∧ C.2.1 = np + 1 ∧ xm_lkB own Ts rm rmC n y bytes maxL ret np ∧
  Cond.methodLink own n y ∈ Ts ∧ Cond.instanceMethod y ∈ Ts ∧ Cond.selects y.cls y y ∈ Ts ∧ tp[q0]? = some (.inr (ci, fk)) ∧ cls[ci]? = some (y.cls, T, N) ∧ (∀ as M, C.2.2.2.1 as M → ∃ as', as = .ref q0 :: as') ∧
  ((C.2.2.1 = 0 ∧ (∀ as M, (C.2.2.2.2 as M).2 = M) ∧ xm_Pu l y (Cond.code y bytes maxL ret :: Ts) rmC cls ns tp C.2.2.2.1 C.2.2.2.2) ∨ (C.2.2.1 = 1 ∧ xm_Wr l y (Cond.code y bytes maxL ret :: Ts) rmC cls ns tp C.2.2.2.1 C.2.2.2.2))
theorem xm_goodIn {Ts : List Cond} (hg : xm_good Ts) {y : MethodName} {b : ByteArray} {n : Nat} {r : Option FieldType} (h : Cond.code y b n r ∈ Ts) : GoodIn Ts (Cond.code y b n r :: Ts) := by
  intro w hw
  rcases List.mem_cons.mp hw with rfl | h1
  · exact ⟨h, hg _ h⟩
  · exact ⟨h1, hg _ h1⟩
theorem xm_tl (ad : Nat → Nat) (o : Option Value) (rest : List Value) : (o.map (xm_v ad)).toList ++ rest.map (xm_v ad) = (o.toList ++ rest).map (xm_v ad) := by
  cases o <;> simp
section XMR
variable {p : Program} {l : Launch} {e : Env} {rm : Room} {s : State} {m : MethodId} {args : Array Value} {below : List Frame} {meth : Method} {c : Code} {cf sf : Nat → Nat} {Q : State → Prop}
variable {cc : ByteArray} {dC : Nat → ClassId} {dI : Nat → Nat → Nat} {cls : List vw_C} {ad dA : Nat → Nat} {tp : List xm_E} {nL : Nat} {own : String} {Ts ns : List Cond}
theorem xm_rowS (S : CallFix p m c cc nL s args Ts own) (hg : xm_good Ts) (hns : ∀ w ∈ ns, xm_isN w = true) (hN : xm_Nw ns s) (hK : va_K (dC, dI) cls (xm_tys dA) s) (hj : xm_inj ad tp.length) (hmono : ∀ n, cf n ≤ cf (n + 1) ∧ sf n ≤ sf (n + 1)) (hcs : ∀ n, cf n ≤ rm.cells ∧ sf n ≤ rm.slots) {n : Nat} {C : xm_C} (h : xm_lkS l own Ts ns rm cls tp n C) :
    xm_row (fun cl H locs g => W p l e rm s m args below meth c H locs (cf cl) (sf cl) Q g) m (xm_R (dC, dI) cls (xm_A ad tp.length) ad dA tp s.heap) ad nL cc n C := by
  obtain ⟨kd, np, pu, pre, fn⟩ := C
  obtain ⟨y, bytes, maxL, ret, rmC, hkd, ⟨hcode, hini, hd, hrm, hrc, hrs⟩, hst, hlink, hM⟩ := h
  dsimp only at hkd hd hM
  subst hkd
  have hts := S.2.2.2.2
  intro pc as rest M cl H locs lsC hn hdg hr hpre hR hsz kk
  dsimp only at hn hpre kk ⊢
  have hdg' : decode cc pc = .ok (.invokestatic n, 3) := hdg
  have hfb : ∀ U : State, U.heap = H → s.WarmedH U.vm → (xm_pc cls ns tp dC dI dA ad as M) (as.map (xm_v ad)).toArray U := fun U hU hW => ⟨rfl, by rw [hU]; exact hR.1, va_K.moved hW.alike hK, hN.warm hns hW⟩
  have hstk : ((as.reverse ++ rest).map (xm_v ad)) = (as.map (xm_v ad)).reverse ++ rest.map (xm_v ad) := by simp
  have hrun : ∀ {Qc : Array Value → State → Outcome → State → Prop} {free : Addr → Prop}, Met l y (Cond.code y bytes maxL ret :: Ts) rmC (xm_pc cls ns tp dC dI dA ad as M) Qc 0 0 free →
      va_Run p l e rm s m args below meth c H locs (cf cl) (sf cl) 0 0 (F0 m pc lsC ((as.reverse ++ rest).map (xm_v ad))) (rest.map (xm_v ad)) (Qc (as.map (xm_v ad)).toArray) free := by
    intro Qc free hMet
    rcases hlink with hl | ⟨host, hl⟩
    · exact va_runS (As := as.map (xm_v ad)) (rest := rest.map (xm_v ad)) S hMet ⟨callB_of np hts (xm_goodIn hg hcode) rfl hrc hrs (hts _ hini) (hts _ hl) hd hrm, hts _ hst⟩ ⟨xm_blind hns, hfb⟩ rfl (by simpa using hn) hsz hstk (lv_room (by rw [xm_catmap]; exact hr)) hdg' (hcs cl)
    · exact va_runSN (host := host) (As := as.map (xm_v ad)) (rest := rest.map (xm_v ad)) S hMet ⟨va_cnB np hts (xm_goodIn hg hcode) rfl hrc hrs (hN _ hl) (hts _ hini) hd hrm, hts _ hst, trivial⟩ ⟨xm_blind hns, hfb⟩ rfl (by simpa using hn) hsz hstk (lv_room (by rw [xm_catmap]; exact hr)) hdg' (hcs cl)
  rcases hM with ⟨hpu, hsame, hM⟩ | ⟨hpu, hM⟩
  · subst hpu
    refine xm_back (v0 := (fn as M).1.map (xm_v ad)) (hrun (hM dC dI dA ad as M hpre hj)) (fun st o t q => q) ?_
    have h1 := kk H locs hR
    rw [← xm_tl] at h1
    exact h1
  · subst hpu
    refine xm_backW (v0 := (fn as M).1.map (xm_v ad)) (A := xm_A ad tp.length) (A0 := xm_A ad tp.length) (PW := fun H1 => va_P (dC, dI) cls (xm_W ad dA tp (fn as M).2) H1) (hrun (hM dC dI dA ad as M hpre hj)) (fun _ q => q) hR.2.1 (fun st o t q => q) (fun H1 locs1 a1 a2 => ?_)
    have h1 := kk H1 locs1 ⟨a1, a2, fun z => by cases z⟩
    rw [← xm_tl] at h1
    exact W.widen (hmono cl).1 (hmono cl).2 h1
theorem xm_rowV (S : CallFix p m c cc nL s args Ts own) (hg : xm_good Ts) (hns : ∀ w ∈ ns, xm_isN w = true) (hN : xm_Nw ns s) (hK : va_K (dC, dI) cls (xm_tys dA) s) (hj : xm_inj ad tp.length) (hmono : ∀ n, cf n ≤ cf (n + 1) ∧ sf n ≤ sf (n + 1)) (hcs : ∀ n, cf n ≤ rm.cells ∧ sf n ≤ rm.slots) {n : Nat} {C : xm_C} (h : xm_lkV l own Ts ns rm cls tp n C) :
    xm_row (fun cl H locs g => W p l e rm s m args below meth c H locs (cf cl) (sf cl) Q g) m (xm_R (dC, dI) cls (xm_A ad tp.length) ad dA tp s.heap) ad nL cc n C := by
  obtain ⟨kd, na, pu, pre, fn⟩ := C
  obtain ⟨y, bytes, maxL, ret, rmC, np, q0, ci, fk, T, N, hkd, hna, ⟨hcode, hini, hd, hrm, hrc, hrs⟩, hl, hin, hse, htp, hcl, hrec, hM⟩ := h
  dsimp only at hkd hna hrec hM
  subst hkd
  subst hna
  have hts := S.2.2.2.2
  intro pc as rest M cl H locs lsC hn hdg hr hpre hR hsz kk
  dsimp only at hn hpre kk ⊢
  have hdg' : decode cc pc = .ok (.invokevirtual n, 3) := hdg
  obtain ⟨as', rfl⟩ := hrec as M hpre
  have hfb : ∀ U : State, U.heap = H → s.WarmedH U.vm → (xm_pc cls ns tp dC dI dA ad (.ref q0 :: as') M) (Value.ref (ad q0) :: as'.map (xm_v ad)).toArray U := fun U hU hW => ⟨rfl, by rw [hU]; exact hR.1, va_K.moved hW.alike hK, hN.warm hns hW⟩
  have hstk : (((Value.ref q0 :: as').reverse ++ rest).map (xm_v ad)) = (as'.map (xm_v ad)).reverse ++ Value.ref (ad q0) :: rest.map (xm_v ad) := by simp [xm_v]
  have hrun : ∀ {Qc : Array Value → State → Outcome → State → Prop} {free : Addr → Prop}, Met l y (Cond.code y bytes maxL ret :: Ts) rmC (xm_pc cls ns tp dC dI dA ad (.ref q0 :: as') M) Qc 0 0 free →
      va_Run p l e rm s m args below meth c H locs (cf cl) (sf cl) 0 0 (F0 m pc lsC (((Value.ref q0 :: as').reverse ++ rest).map (xm_v ad))) (rest.map (xm_v ad)) (Qc (Value.ref (ad q0) :: as'.map (xm_v ad)).toArray) free := by
    intro Qc free hMet
    exact va_runV (C := y.cls) (b := ad q0) (As := as'.map (xm_v ad)) (rest := rest.map (xm_v ad)) S hMet ⟨callB_of np hts (xm_goodIn hg hcode) rfl hrc hrs (hts _ hini) (hts _ hl) hd hrm, hts _ hin, hts _ hse⟩ ⟨xm_blind hns, va_recv hK hR.1 hcl (xm_W_at htp), hfb⟩ rfl (by simpa using hn) hsz hstk (lv_room (by rw [xm_catmap]; exact hr)) hdg' (hcs cl)
  rcases hM with ⟨hpu, hsame, hM⟩ | ⟨hpu, hM⟩
  · subst hpu
    refine xm_back (v0 := (fn (.ref q0 :: as') M).1.map (xm_v ad)) (hrun (hM dC dI dA ad _ M hpre hj)) (fun st o t q => q) ?_
    have h1 := kk H locs hR
    rw [← xm_tl] at h1
    exact h1
  · subst hpu
    refine xm_backW (v0 := (fn (.ref q0 :: as') M).1.map (xm_v ad)) (A := xm_A ad tp.length) (A0 := xm_A ad tp.length) (PW := fun H1 => va_P (dC, dI) cls (xm_W ad dA tp (fn (.ref q0 :: as') M).2) H1) (hrun (hM dC dI dA ad _ M hpre hj)) (fun _ q => q) hR.2.1 (fun st o t q => q) (fun H1 locs1 a1 a2 => ?_)
    have h1 := kk H1 locs1 ⟨a1, a2, fun z => by cases z⟩
    rw [← xm_tl] at h1
    exact W.widen (hmono cl).1 (hmono cl).2 h1
end XMR
/-- what a method's walk leans on, decided once -/
def xm_stt (own : String) (Ts ns : List Cond) (cls : List vw_C) (tp : List xm_E) (fl : List (Nat × Nat × Nat)) (cn : List (Nat × Int32)) (cj : List (Nat × Int64)) : Prop :=
  xm_good Ts ∧ (∀ w ∈ ns, xm_isN w = true) ∧ (∀ n v, (n, v) ∈ cn → Cond.constant own n v ∈ Ts) ∧ (∀ n v, (n, v) ∈ cj → Cond.constantLong own n v ∈ Ts) ∧ xm_okP fl cls tp ∧
  (∀ n ci kf, (n, ci, kf) ∈ fl → ∃ C T N, cls[ci]? = some (C, T, N) ∧ kf < N ∧ (∀ w ∈ u_ws C T N, w ∈ Ts) ∧ (Cond.fieldLink own n (T kf).1 (T kf).2.1 (T kf).2.2.1 ∈ Ts ∨ ∃ host, Cond.fieldLinkNest own n (T kf).1 (T kf).2.1 (T kf).2.2.1 host ∈ ns))

theorem xm_args (ad : Nat → Nat) : ∀ (as : List Value) (i : Nat), lv_args i (as.map (xm_v ad)) = xm_L ad (lv_args i as)
  | [], _ => rfl
  | v :: vs, i => by
    show (i, xm_v ad v) :: lv_args (if (xm_v ad v).category = 2 then i + 2 else i + 1) (vs.map (xm_v ad)) = (i, xm_v ad v) :: xm_L ad (lv_args (if v.category = 2 then i + 2 else i + 1) vs)
    rw [xm_cat, xm_args ad vs]
theorem xm_sl (ad : Nat → Nat) (as : List Value) : (lg_sl (as.map (xm_v ad))).length = (lg_sl as).length := by
  induction as with
  | nil => rfl
  | cons v vs ih =>
    simp only [lg_sl, List.map_cons, List.flatMap_cons, List.length_append] at ih ⊢
    rw [ih, xm_cat]
    split <;> rfl
section XMM
variable {l : Launch} {y : MethodName} {cc : ByteArray} {maxL : Nat} {ret : Option FieldType} {rt : FieldType} {Ts ns : List Cond} {cls : List vw_C} {tp : List xm_E} {fl : List (Nat × Nat × Nat)} {ct : List (Nat × xm_C)} {cn : List (Nat × Int32)} {cj : List (Nat × Int64)} {pr : xm_P} {rm : Room}
/-- the walk of a method's body, out of its condition and those of its cuts -/
theorem xm_body {p : Program} {e : Env} {s : State} {m : MethodId} {args : Array Value} {below : List Frame} {meth : Method} {c : Code} {Q : State → Prop} {dC : Nat → ClassId} {dI : Nat → Nat → Nat} {ad dA : Nat → Nat}
    (hst : xm_stt y.cls Ts ns cls tp fl cn cj) (hch : xm_chb cc pr = true) (h0 : xm_hd1 pr = some 0) (hct : ∀ n C, (n, C) ∈ ct → xm_lkS l y.cls Ts ns rm cls tp n C ∨ xm_lkV l y.cls Ts ns rm cls tp n C)
    (hx : p.tables.exec = Jvm.exec) (hb : c.code = cc) (hml : c.maxLocals = maxL) (hown : s.vm.findClass y.cls = some m.cls) (hts : ∀ w ∈ Ts, w.before args s = true) (hK : va_K (dC, dI) cls (xm_tys dA) s) (hN : xm_Nw ns s) (hj : xm_inj ad tp.length)
    {Qr : Option Value → xm_M → Nat → Prop} {Qt : Nat → Nat → xm_M → Nat → Prop}
    (hreti : xm_okI (fun cl H locs g => W p l e rm s m args below meth c H locs ((fun _ => 0) cl) ((fun _ => 0) cl) Q g) m (xm_R (dC, dI) cls (xm_A ad tp.length) ad dA tp s.heap) cc rt Qr)
    (hretj : xm_okJ (fun cl H locs g => W p l e rm s m args below meth c H locs ((fun _ => 0) cl) ((fun _ => 0) cl) Q g) m (xm_R (dC, dI) cls (xm_A ad tp.length) ad dA tp s.heap) cc Qr)
    (hretv : xm_okV (fun cl H locs g => W p l e rm s m args below meth c H locs ((fun _ => 0) cl) ((fun _ => 0) cl) Q g) m (xm_R (dC, dI) cls (xm_A ad tp.length) ad dA tp s.heap) cc Qr)
    (hthr : xm_okT (fun cl H locs g => W p l e rm s m args below meth c H locs ((fun _ => 0) cl) ((fun _ => 0) cl) Q g) m (xm_R (dC, dI) cls (xm_A ad tp.length) ad dA tp s.heap) maxL cc Qt)
    (Kn : Nat → Nat → List (Nat × Value) → List Value → xm_M → Nat → Prop) {as : List Value} {M : xm_M} (hargs : (lg_sl as).length ≤ maxL)
    (hlp : ∀ j pc ls st M' cl, Kn j pc ls st M' cl → ∃ n, xm_w 0 (fun _ => 0) pr fl ct cn cj tp rt maxL Qr Qt (fun pc ls st M' cl => ∃ i, i < j ∧ Kn i pc ls st M' cl) n false (xm_at pr pc) ls st M' cl)
    (hvc : ∃ n, xm_w 0 (fun _ => 0) pr fl ct cn cj tp rt maxL Qr Qt (fun pc ls st M' cl => ∃ i, Kn i pc ls st M' cl) n false pr (lv_args 0 as) [] M 0)
    (hP : va_P (dC, dI) cls (xm_W ad dA tp M) s.heap) :
    W p l e rm s m args below meth c s.heap [] 0 0 Q (entryFrame m (as.map (xm_v ad)).toArray maxL) := by
  obtain ⟨hg, hns, hcn, hcj, hpf, hfl⟩ := hst
  have hD : ∀ M, va_D (xm_A ad tp.length) (xm_W ad dA tp M) := xm_D hj (fun k hk => ⟨k, hk, rfl⟩)
  have hcn' : ∀ n v, (n, v) ∈ cn → (Jvm.Cond.constant y.cls n v).before args s = true := fun n v h => hts _ (hcn n v h)
  have hcj' : ∀ n v, (n, v) ∈ cj → (Jvm.Cond.constantLong y.cls n v).before args s = true := fun n v h => hts _ (hcj n v h)
  have hfl' : xm_okF y.cls fl cls Ts args s := by
    intro n ci kf h
    obtain ⟨C, T, N, h1, h2, h3, h4⟩ := hfl n ci kf h
    refine ⟨C, T, N, h1, h2, h3, ?_⟩
    rcases h4 with h4 | ⟨host, h4⟩
    · exact Or.inl (hts _ h4)
    · exact Or.inr ⟨host, va_Nw.use rfl (hN _ h4)⟩
  have hcall : xm_okC (fun cl H locs g => W p l e rm s m args below meth c H locs ((fun _ => 0) cl) ((fun _ => 0) cl) Q g) m (xm_R (dC, dI) cls (xm_A ad tp.length) ad dA tp s.heap) ad maxL cc ct := by
    refine xm_okC_of (fun n C h => ?_)
    rcases hct n C h with h1 | h1
    · exact xm_rowS ⟨hx, hb, hml, hown, hts⟩ hg hns hN hK hj (fun _ => ⟨Nat.le_refl _, Nat.le_refl _⟩) (fun _ => ⟨Nat.zero_le _, Nat.zero_le _⟩) h1
    · exact xm_rowV ⟨hx, hb, hml, hown, hts⟩ hg hns hN hK hj (fun _ => ⟨Nat.le_refl _, Nat.le_refl _⟩) (fun _ => ⟨Nat.zero_le _, Nat.zero_le _⟩) h1
  have hch' := xm_ch_of hch
  have hloop : ∀ j pc ls st M' cl, Kn j pc ls st M' cl → xm_J (fun cl H locs g => W p l e rm s m args below meth c H locs ((fun _ => 0) cl) ((fun _ => 0) cl) Q g) m (xm_R (dC, dI) cls (xm_A ad tp.length) ad dA tp s.heap) ad maxL pc ls st M' cl := by
    intro j
    induction j using Nat.strongRecOn with
    | _ j ih =>
      intro pc ls st M' cl h
      obtain ⟨n, h1⟩ := hlp j pc ls st M' cl h
      obtain ⟨q, t, e1, h2⟩ := xm_sound hx hb hown hts hK hD (fun _ => ⟨Nat.le_refl _, Nat.le_refl _⟩) (fun z => absurd z (Nat.lt_irrefl 0)) hcn' hcj' hfl' hpf hcall hreti hretj hretv hthr hch' (fun pc ls st M' cl hh => by obtain ⟨i, hi, h3⟩ := hh; exact ih i hi pc ls st M' cl h3) n false (xm_at pr pc) (xm_at_ch _ hch') ls st M' cl h1
      rw [xm_at_hd e1] at h2
      exact h2
  obtain ⟨n, h1⟩ := hvc
  obtain ⟨q, t, e1, h2⟩ := xm_sound hx hb hown hts hK hD (fun _ => ⟨Nat.le_refl _, Nat.le_refl _⟩) (fun z => absurd z (Nat.lt_irrefl 0)) hcn' hcj' hfl' hpf hcall hreti hretj hretv hthr hch' (fun pc ls st M' cl hh => by obtain ⟨i, h3⟩ := hh; exact hloop i pc ls st M' cl h3) n false pr hch' _ _ _ _ h1
  have hq : q.1 = 0 := by
    rw [e1] at h0
    exact Option.some.inj h0
  rw [hq] at h2
  have hl := lv_entry (as.map (xm_v ad)) (n := maxL) (by rw [xm_sl]; exact hargs)
  rw [xm_args] at hl
  rw [lg_entry_eq]
  exact h2 s.heap [] _ ⟨hP, va_S.rf, fun _ => ⟨rfl, rfl⟩⟩ hl
theorem xm_mk_pu (hy : plainFor y = true) (hst : xm_stt y.cls Ts ns cls tp fl cn cj) (hch : xm_chb cc pr = true) (h0 : xm_hd1 pr = some 0) (hret : ret = none ∨ ret = some rt) (hct : ∀ n C, (n, C) ∈ ct → xm_lkS l y.cls Ts ns rm cls tp n C ∨ xm_lkV l y.cls Ts ns rm cls tp n C)
    {pre : List Value → xm_M → Prop} {fn : List Value → xm_M → Option Value × xm_M}
    (Kn : List Value → xm_M → Nat → Nat → List (Nat × Value) → List Value → xm_M → Nat → Prop) (hargs : ∀ as M, pre as M → (lg_sl as).length ≤ maxL)
    (hsome : ∀ as M, pre as M → ((fn as M).1 = none ↔ ret = none))
    (hlong : ∀ as M v, pre as M → some (Value.long v) = (fn as M).1 → rt = .long)
    (hlp : ∀ as M, pre as M → ∀ j pc ls st M' cl, Kn as M j pc ls st M' cl → ∃ n, xm_w 0 (fun _ => 0) pr fl ct cn cj tp rt maxL (fun r _ cl => r = (fn as M).1 ∧ cl = 0) (fun _ _ _ _ => False) (fun pc ls st M' cl => ∃ i, i < j ∧ Kn as M i pc ls st M' cl) n false (xm_at pr pc) ls st M' cl)
    (hvc : ∀ as M, pre as M → ∃ n, xm_w 0 (fun _ => 0) pr fl ct cn cj tp rt maxL (fun r _ cl => r = (fn as M).1 ∧ cl = 0) (fun _ _ _ _ => False) (fun pc ls st M' cl => ∃ i, Kn as M i pc ls st M' cl) n false pr (lv_args 0 as) [] M 0) :
    xm_Pu l y (Cond.code y cc maxL ret :: Ts) rm cls ns tp pre fn := by
  intro dC dI dA ad as M hpre hj
  refine va_MetF (cc := cc) (maxL := maxL) (ret := ret) hy rfl ?_
  intro p e s m args below meth c s₁ B hml hv
  obtain ⟨rfl, hP, hK, hN⟩ := hv
  have hx := B.exec
  have hb := B.bytes
  have hr := B.returns
  have hts0 := atoms_spec (ws := Cond.code y cc maxL ret :: Ts) B.pre
  have hts : ∀ w ∈ Ts, w.before (as.map (xm_v ad)).toArray s = true := fun w h => hts0 w (List.mem_cons_of_mem _ h)
  have hown : s.vm.findClass y.cls = some m.cls := findClass_of_methodNamed B.named
  have hlocks := B.notSynchronized
  refine xm_body (rm := rm) hst hch h0 hct hx hb hml hown hts hK hN hj (Qr := fun r _ cl => r = (fn as M).1 ∧ cl = 0) (Qt := fun _ _ _ _ => False) ?_ ?_ ?_ (fun pc n M' cl H locs lsC _ h => h.elim) (Kn as M) (hargs as M hpre) (hlp as M hpre) (hvc as M hpre) hP
  · intro pc v M' cl H locs lsC hdg hn hq hR
    obtain ⟨e1, e2⟩ := hq
    obtain ⟨eH, eL⟩ := hR.2.2 e2
    subst eH; subst eL
    have hr' : meth.sig.returnType = some rt := by
      rcases hret with h | h
      · exact absurd ((hsome as M hpre).mpr h) (by rw [← e1]; simp)
      · rw [hr, h]
    exact W.zret hx hb hr' hn (fun t ht _ => ⟨by rw [← e1]; rfl, ht⟩) (fun q h => by cases h) hdg
  · intro pc v M' cl H locs lsC hdg hq hR
    obtain ⟨e1, e2⟩ := hq
    obtain ⟨eH, eL⟩ := hR.2.2 e2
    subst eH; subst eL
    have hr' : meth.sig.returnType = some .long := by
      rcases hret with h | h
      · exact absurd ((hsome as M hpre).mpr h) (by rw [← e1]; simp)
      · rw [hr, h, hlong as M v hpre e1]
    exact W.lret hx hb hr' (fun t ht _ => ⟨by rw [← e1]; rfl, ht⟩) (fun q h => by cases h) hdg
  · intro pc M' cl H locs lsC hdg hq hR
    obtain ⟨e1, e2⟩ := hq
    obtain ⟨eH, eL⟩ := hR.2.2 e2
    subst eH; subst eL
    have hr' : meth.sig.returnType = none := by rw [hr]; exact (hsome as M hpre).mp e1.symm
    exact W.vret hx hb hr' (fun t ht _ => ⟨by rw [← e1]; rfl, ht⟩) (fun q h => by cases h) hdg
theorem xm_mk_wr (hy : plainFor y = true) (hst : xm_stt y.cls Ts ns cls tp fl cn cj) (hch : xm_chb cc pr = true) (h0 : xm_hd1 pr = some 0) (hret : ret = none ∨ ret = some rt) (hct : ∀ n C, (n, C) ∈ ct → xm_lkS l y.cls Ts ns rm cls tp n C ∨ xm_lkV l y.cls Ts ns rm cls tp n C)
    {pre : List Value → xm_M → Prop} {fn : List Value → xm_M → Option Value × xm_M}
    (Kn : List Value → xm_M → Nat → Nat → List (Nat × Value) → List Value → xm_M → Nat → Prop) (hargs : ∀ as M, pre as M → (lg_sl as).length ≤ maxL)
    (hsome : ∀ as M, pre as M → ((fn as M).1 = none ↔ ret = none))
    (hlong : ∀ as M v, pre as M → some (Value.long v) = (fn as M).1 → rt = .long)
    (hlp : ∀ as M, pre as M → ∀ j pc ls st M' cl, Kn as M j pc ls st M' cl → ∃ n, xm_w 0 (fun _ => 0) pr fl ct cn cj tp rt maxL (fun r M2 _ => r = (fn as M).1 ∧ M2 = (fn as M).2) (fun _ _ _ _ => False) (fun pc ls st M' cl => ∃ i, i < j ∧ Kn as M i pc ls st M' cl) n false (xm_at pr pc) ls st M' cl)
    (hvc : ∀ as M, pre as M → ∃ n, xm_w 0 (fun _ => 0) pr fl ct cn cj tp rt maxL (fun r M2 _ => r = (fn as M).1 ∧ M2 = (fn as M).2) (fun _ _ _ _ => False) (fun pc ls st M' cl => ∃ i, Kn as M i pc ls st M' cl) n false pr (lv_args 0 as) [] M 0) :
    xm_Wr l y (Cond.code y cc maxL ret :: Ts) rm cls ns tp pre fn := by
  intro dC dI dA ad as M hpre hj
  refine va_MetF (cc := cc) (maxL := maxL) (ret := ret) hy rfl ?_
  intro p e s m args below meth c s₁ B hml hv
  obtain ⟨rfl, hP, hK, hN⟩ := hv
  have hx := B.exec
  have hb := B.bytes
  have hr := B.returns
  have hts0 := atoms_spec (ws := Cond.code y cc maxL ret :: Ts) B.pre
  have hts : ∀ w ∈ Ts, w.before (as.map (xm_v ad)).toArray s = true := fun w h => hts0 w (List.mem_cons_of_mem _ h)
  have hown : s.vm.findClass y.cls = some m.cls := findClass_of_methodNamed B.named
  have hlocks := B.notSynchronized
  refine xm_body (rm := rm) hst hch h0 hct hx hb hml hown hts hK hN hj (Qr := fun r M2 _ => r = (fn as M).1 ∧ M2 = (fn as M).2) (Qt := fun _ _ _ _ => False) ?_ ?_ ?_ (fun pc n M' cl H locs lsC _ h => h.elim) (Kn as M) (hargs as M hpre) (hlp as M hpre) (hvc as M hpre) hP
  · intro pc v M' cl H locs lsC hdg hn hq hR
    obtain ⟨e1, e2⟩ := hq
    subst e2
    have hr' : meth.sig.returnType = some rt := by
      rcases hret with h | h
      · exact absurd ((hsome as M hpre).mpr h) (by rw [← e1]; simp)
      · rw [hr, h]
    exact W.zret hx hb hr' hn (fun t ht _ => ⟨by rw [← e1]; rfl, by rw [ht]; exact hR.1, hR.2.1.F ht⟩) hR.2.1.2.2 hdg
  · intro pc v M' cl H locs lsC hdg hq hR
    obtain ⟨e1, e2⟩ := hq
    subst e2
    have hr' : meth.sig.returnType = some .long := by
      rcases hret with h | h
      · exact absurd ((hsome as M hpre).mpr h) (by rw [← e1]; simp)
      · rw [hr, h, hlong as M v hpre e1]
    exact W.lret hx hb hr' (fun t ht _ => ⟨by rw [← e1]; rfl, by rw [ht]; exact hR.1, hR.2.1.F ht⟩) hR.2.1.2.2 hdg
  · intro pc M' cl H locs lsC hdg hq hR
    obtain ⟨e1, e2⟩ := hq
    subst e2
    have hr' : meth.sig.returnType = none := by rw [hr]; exact (hsome as M hpre).mp e1.symm
    exact W.vret hx hb hr' (fun t ht _ => ⟨by rw [← e1]; rfl, by rw [ht]; exact hR.1, hR.2.1.F ht⟩) hR.2.1.2.2 hdg
end XMM
end
section
/-! NAMES: written by a program out of the Statement: words by their places, class tables, worlds, programs -/
def xt_T : List Cond := lw_tbl.filter goodWord
theorem xt_good : xm_good xt_T := fun w h => good_of_word (List.mem_filter.mp h).2
theorem xt_in {w : Cond} (i : Nat) (h : lw_tbl[i]? = some w) (g : goodWord w = true) : w ∈ xt_T := List.mem_filter.mpr ⟨List.mem_of_getElem? h, g⟩
def xk_R0 : String := "AbsenceRows"
def xk_T0 : u_T := fun k => match k with
  | 0 => ("AbsenceRows", "calendar", "LAbsenceRows$Calendar;", true)
  | 1 => ("AbsenceRows", "persons", "LAbsenceRows$Persons;", true)
  | 2 => ("AbsenceRows", "crews", "LAbsenceRows$Crews;", true)
  | 3 => ("AbsenceRows", "asks", "LAbsenceRows$Asks;", true)
  | 4 => ("AbsenceRows", "heldRows", "LAbsenceRows$HeldRows;", true)
  | 5 => ("AbsenceRows", "calls", "LAbsenceRows$Calls;", true)
  | 6 => ("AbsenceRows", "carryDays", "I", false)
  | 7 => ("AbsenceRows", "patienceHours", "I", false)
  | _ => ("AbsenceRows", "hour", "I", false)
def xk_t0 : Nat → FieldType := fun k => match k with
  | 0 => .object "AbsenceRows$Calendar"
  | 1 => .object "AbsenceRows$Persons"
  | 2 => .object "AbsenceRows$Crews"
  | 3 => .object "AbsenceRows$Asks"
  | 4 => .object "AbsenceRows$HeldRows"
  | 5 => .object "AbsenceRows$Calls"
  | 6 => .int
  | 7 => .int
  | _ => .int
theorem xk_n0 : ∀ a, a < 9 → ∀ b, b < 9 → a ≠ b → (xk_T0 a).2.1 ≠ (xk_T0 b).2.1 := by decide +kernel
theorem xk_p0 : ∀ k, k < 9 → parseFieldDescriptor (xk_T0 k).2.2.1 = some (xk_t0 k) := by decide +kernel
theorem xk_w0 : ∀ w ∈ u_ws xk_R0 xk_T0 9, w ∈ xt_T := by decide +kernel
def xk_R1 : String := "AbsenceRows$Calendar"
def xk_T1 : u_T := fun k => match k with
  | _ => ("AbsenceRows$Calendar", "isHoliday", "[Z", true)
def xk_t1 : Nat → FieldType := fun k => match k with
  | _ => .array .boolean
theorem xk_n1 : ∀ a, a < 1 → ∀ b, b < 1 → a ≠ b → (xk_T1 a).2.1 ≠ (xk_T1 b).2.1 := by decide +kernel
theorem xk_p1 : ∀ k, k < 1 → parseFieldDescriptor (xk_T1 k).2.2.1 = some (xk_t1 k) := by decide +kernel
theorem xk_w1 : ∀ w ∈ u_ws xk_R1 xk_T1 1, w ∈ xt_T := by decide +kernel
def xk_R2 : String := "AbsenceRows$Persons"
def xk_T2 : u_T := fun k => match k with
  | 0 => ("AbsenceRows$Persons", "count", "I", false)
  | 1 => ("AbsenceRows$Persons", "skills", "[I", true)
  | 2 => ("AbsenceRows$Persons", "rank", "[I", true)
  | 3 => ("AbsenceRows$Persons", "since", "[I", true)
  | 4 => ("AbsenceRows$Persons", "up", "[I", true)
  | 5 => ("AbsenceRows$Persons", "down", "[I", true)
  | 6 => ("AbsenceRows$Persons", "timesAsked", "[I", true)
  | _ => ("AbsenceRows$Persons", "barredBefore", "[I", true)
def xk_t2 : Nat → FieldType := fun k => match k with
  | 0 => .int
  | 1 => .array .int
  | 2 => .array .int
  | 3 => .array .int
  | 4 => .array .int
  | 5 => .array .int
  | 6 => .array .int
  | _ => .array .int
theorem xk_n2 : ∀ a, a < 8 → ∀ b, b < 8 → a ≠ b → (xk_T2 a).2.1 ≠ (xk_T2 b).2.1 := by decide +kernel
theorem xk_p2 : ∀ k, k < 8 → parseFieldDescriptor (xk_T2 k).2.2.1 = some (xk_t2 k) := by decide +kernel
theorem xk_w2 : ∀ w ∈ u_ws xk_R2 xk_T2 8, w ∈ xt_T := by decide +kernel
def xk_R3 : String := "AbsenceRows$Crews"
def xk_T3 : u_T := fun k => match k with
  | 0 => ("AbsenceRows$Crews", "count", "I", false)
  | 1 => ("AbsenceRows$Crews", "skills", "[I", true)
  | 2 => ("AbsenceRows$Crews", "least", "[I", true)
  | _ => ("AbsenceRows$Crews", "members", "[I", true)
def xk_t3 : Nat → FieldType := fun k => match k with
  | 0 => .int
  | 1 => .array .int
  | 2 => .array .int
  | _ => .array .int
theorem xk_n3 : ∀ a, a < 4 → ∀ b, b < 4 → a ≠ b → (xk_T3 a).2.1 ≠ (xk_T3 b).2.1 := by decide +kernel
theorem xk_p3 : ∀ k, k < 4 → parseFieldDescriptor (xk_T3 k).2.2.1 = some (xk_t3 k) := by decide +kernel
theorem xk_w3 : ∀ w ∈ u_ws xk_R3 xk_T3 4, w ∈ xt_T := by decide +kernel
def xk_R4 : String := "AbsenceRows$Asks"
def xk_T4 : u_T := fun k => match k with
  | 0 => ("AbsenceRows$Asks", "count", "I", false)
  | 1 => ("AbsenceRows$Asks", "person", "[I", true)
  | 2 => ("AbsenceRows$Asks", "kind", "[I", true)
  | 3 => ("AbsenceRows$Asks", "from", "[I", true)
  | 4 => ("AbsenceRows$Asks", "to", "[I", true)
  | 5 => ("AbsenceRows$Asks", "halves", "[I", true)
  | 6 => ("AbsenceRows$Asks", "state", "[I", true)
  | _ => ("AbsenceRows$Asks", "firstStepBy", "[I", true)
def xk_t4 : Nat → FieldType := fun k => match k with
  | 0 => .int
  | 1 => .array .int
  | 2 => .array .int
  | 3 => .array .int
  | 4 => .array .int
  | 5 => .array .int
  | 6 => .array .int
  | _ => .array .int
theorem xk_n4 : ∀ a, a < 8 → ∀ b, b < 8 → a ≠ b → (xk_T4 a).2.1 ≠ (xk_T4 b).2.1 := by decide +kernel
theorem xk_p4 : ∀ k, k < 8 → parseFieldDescriptor (xk_T4 k).2.2.1 = some (xk_t4 k) := by decide +kernel
theorem xk_w4 : ∀ w ∈ u_ws xk_R4 xk_T4 8, w ∈ xt_T := by decide +kernel
def xk_R5 : String := "AbsenceRows$HeldRows"
def xk_T5 : u_T := fun k => match k with
  | 0 => ("AbsenceRows$HeldRows", "count", "I", false)
  | 1 => ("AbsenceRows$HeldRows", "ask", "[I", true)
  | 2 => ("AbsenceRows$HeldRows", "day", "[I", true)
  | _ => ("AbsenceRows$HeldRows", "crew", "[I", true)
def xk_t5 : Nat → FieldType := fun k => match k with
  | 0 => .int
  | 1 => .array .int
  | 2 => .array .int
  | _ => .array .int
theorem xk_n5 : ∀ a, a < 4 → ∀ b, b < 4 → a ≠ b → (xk_T5 a).2.1 ≠ (xk_T5 b).2.1 := by decide +kernel
theorem xk_p5 : ∀ k, k < 4 → parseFieldDescriptor (xk_T5 k).2.2.1 = some (xk_t5 k) := by decide +kernel
theorem xk_w5 : ∀ w ∈ u_ws xk_R5 xk_T5 4, w ∈ xt_T := by decide +kernel
def xk_R6 : String := "AbsenceRows$Calls"
def xk_T6 : u_T := fun k => match k with
  | 0 => ("AbsenceRows$Calls", "count", "I", false)
  | 1 => ("AbsenceRows$Calls", "crew", "[I", true)
  | 2 => ("AbsenceRows$Calls", "day", "[I", true)
  | 3 => ("AbsenceRows$Calls", "state", "[I", true)
  | 4 => ("AbsenceRows$Calls", "person", "[I", true)
  | 5 => ("AbsenceRows$Calls", "wereAsked", "[I", true)
  | _ => ("AbsenceRows$Calls", "nextAt", "[I", true)
def xk_t6 : Nat → FieldType := fun k => match k with
  | 0 => .int
  | 1 => .array .int
  | 2 => .array .int
  | 3 => .array .int
  | 4 => .array .int
  | 5 => .array .int
  | _ => .array .int
theorem xk_n6 : ∀ a, a < 7 → ∀ b, b < 7 → a ≠ b → (xk_T6 a).2.1 ≠ (xk_T6 b).2.1 := by decide +kernel
theorem xk_p6 : ∀ k, k < 7 → parseFieldDescriptor (xk_T6 k).2.2.1 = some (xk_t6 k) := by decide +kernel
theorem xk_w6 : ∀ w ∈ u_ws xk_R6 xk_T6 7, w ∈ xt_T := by decide +kernel
def xk_R7 : String := "AbsenceRowsModel"
def xk_T7 : u_T := fun k => match k with
  | 0 => ("AbsenceRowsModel", "thrown", "I", false)
  | 1 => ("AbsenceRowsModel", "hour", "I", false)
  | 2 => ("AbsenceRowsModel", "free", "[Z", true)
  | 3 => ("AbsenceRowsModel", "persons", "I", false)
  | 4 => ("AbsenceRowsModel", "skills", "[I", true)
  | 5 => ("AbsenceRowsModel", "rank", "[I", true)
  | 6 => ("AbsenceRowsModel", "since", "[I", true)
  | 7 => ("AbsenceRowsModel", "up", "[I", true)
  | 8 => ("AbsenceRowsModel", "down", "[I", true)
  | 9 => ("AbsenceRowsModel", "times", "[I", true)
  | 10 => ("AbsenceRowsModel", "bars", "[I", true)
  | 11 => ("AbsenceRowsModel", "carry", "I", false)
  | 12 => ("AbsenceRowsModel", "crews", "I", false)
  | 13 => ("AbsenceRowsModel", "wants", "[I", true)
  | 14 => ("AbsenceRowsModel", "least", "[I", true)
  | 15 => ("AbsenceRowsModel", "member", "[Z", true)
  | 16 => ("AbsenceRowsModel", "asks", "I", false)
  | 17 => ("AbsenceRowsModel", "who", "[I", true)
  | 18 => ("AbsenceRowsModel", "kind", "[I", true)
  | 19 => ("AbsenceRowsModel", "from", "[I", true)
  | 20 => ("AbsenceRowsModel", "to", "[I", true)
  | 21 => ("AbsenceRowsModel", "halves", "[I", true)
  | 22 => ("AbsenceRowsModel", "state", "[I", true)
  | 23 => ("AbsenceRowsModel", "step", "[I", true)
  | 24 => ("AbsenceRowsModel", "rows", "I", false)
  | 25 => ("AbsenceRowsModel", "rowAsk", "[I", true)
  | 26 => ("AbsenceRowsModel", "rowDay", "[I", true)
  | 27 => ("AbsenceRowsModel", "rowCrew", "[I", true)
  | 28 => ("AbsenceRowsModel", "calls", "I", false)
  | 29 => ("AbsenceRowsModel", "callCrew", "[I", true)
  | 30 => ("AbsenceRowsModel", "callDay", "[I", true)
  | 31 => ("AbsenceRowsModel", "callState", "[I", true)
  | 32 => ("AbsenceRowsModel", "callPerson", "[I", true)
  | 33 => ("AbsenceRowsModel", "callMany", "[I", true)
  | 34 => ("AbsenceRowsModel", "callDue", "[I", true)
  | 35 => ("AbsenceRowsModel", "wasAsked", "[Z", true)
  | _ => ("AbsenceRowsModel", "patience", "I", false)
def xk_t7 : Nat → FieldType := fun k => match k with
  | 0 => .int
  | 1 => .int
  | 2 => .array .boolean
  | 3 => .int
  | 4 => .array .int
  | 5 => .array .int
  | 6 => .array .int
  | 7 => .array .int
  | 8 => .array .int
  | 9 => .array .int
  | 10 => .array .int
  | 11 => .int
  | 12 => .int
  | 13 => .array .int
  | 14 => .array .int
  | 15 => .array .boolean
  | 16 => .int
  | 17 => .array .int
  | 18 => .array .int
  | 19 => .array .int
  | 20 => .array .int
  | 21 => .array .int
  | 22 => .array .int
  | 23 => .array .int
  | 24 => .int
  | 25 => .array .int
  | 26 => .array .int
  | 27 => .array .int
  | 28 => .int
  | 29 => .array .int
  | 30 => .array .int
  | 31 => .array .int
  | 32 => .array .int
  | 33 => .array .int
  | 34 => .array .int
  | 35 => .array .boolean
  | _ => .int
theorem xk_n7 : ∀ a, a < 37 → ∀ b, b < 37 → a ≠ b → (xk_T7 a).2.1 ≠ (xk_T7 b).2.1 := by decide +kernel
theorem xk_p7 : ∀ k, k < 37 → parseFieldDescriptor (xk_T7 k).2.2.1 = some (xk_t7 k) := by decide +kernel
theorem xk_w7 : ∀ w ∈ u_ws xk_R7 xk_T7 37, w ∈ xt_T := by decide +kernel
abbrev xk_cl : List vw_C := [(xk_R0, xk_T0, 9), (xk_R1, xk_T1, 1), (xk_R2, xk_T2, 8), (xk_R3, xk_T3, 4), (xk_R4, xk_T4, 8), (xk_R5, xk_T5, 4), (xk_R6, xk_T6, 7), (xk_R7, xk_T7, 37)]
def xk_ns : List Cond := [(Cond.methodLinkNest "AbsenceRows" 9 ⟨"AbsenceRows$Calendar", "<init>", "()V"⟩ "AbsenceRows"), (Cond.methodLinkNest "AbsenceRows" 18 ⟨"AbsenceRows$Persons", "<init>", "()V"⟩ "AbsenceRows"), (Cond.methodLinkNest "AbsenceRows" 25 ⟨"AbsenceRows$Crews", "<init>", "()V"⟩ "AbsenceRows"), (Cond.methodLinkNest "AbsenceRows" 32 ⟨"AbsenceRows$Asks", "<init>", "()V"⟩ "AbsenceRows"), (Cond.methodLinkNest "AbsenceRows" 39 ⟨"AbsenceRows$HeldRows", "<init>", "()V"⟩ "AbsenceRows"), (Cond.methodLinkNest "AbsenceRows" 46 ⟨"AbsenceRows$Calls", "<init>", "()V"⟩ "AbsenceRows"), (Cond.methodLinkNest "AbsenceRows$Persons" 37 ⟨"AbsenceRows", "isWithin", "(III)Z"⟩ "AbsenceRows"), (Cond.methodLinkNest "AbsenceRows$Calendar" 19 ⟨"AbsenceRows", "isHalf", "(IIII)Z"⟩ "AbsenceRows"), (Cond.methodLinkNest "AbsenceRows$Crews" 25 ⟨"AbsenceRows", "isWithin", "(III)Z"⟩ "AbsenceRows"), (Cond.methodLinkNest "AbsenceRows$Asks" 37 ⟨"AbsenceRows", "isWithin", "(III)Z"⟩ "AbsenceRows"), (Cond.methodLinkNest "AbsenceRows$Persons" 50 ⟨"AbsenceRows", "only", "(I)I"⟩ "AbsenceRows"), (Cond.methodLinkNest "AbsenceRows$Asks" 41 ⟨"AbsenceRows", "isHalf", "(IIII)Z"⟩ "AbsenceRows"), (Cond.methodLinkNest "AbsenceRows$Asks" 45 ⟨"AbsenceRows", "only", "(I)I"⟩ "AbsenceRows"), (Cond.methodLinkNest "AbsenceRows$Calls" 38 ⟨"AbsenceRows", "only", "(I)I"⟩ "AbsenceRows"), (Cond.methodLinkNest "AbsenceRows$HeldRows" 25 ⟨"AbsenceRows", "isWithin", "(III)Z"⟩ "AbsenceRows"), (Cond.methodLinkNest "AbsenceRows$Calls" 34 ⟨"AbsenceRows", "isWithin", "(III)Z"⟩ "AbsenceRows"), (Cond.castable "java/lang/IndexOutOfBoundsException" "java/lang/IndexOutOfBoundsException"), (Cond.declares ⟨"java/lang/RuntimeException", "<init>", "()V"⟩), (Cond.declares ⟨"java/lang/RuntimeException", "<init>", "(Ljava/lang/String;)V"⟩), (Cond.declares ⟨"java/lang/Exception", "<init>", "()V"⟩), (Cond.declares ⟨"java/lang/Exception", "<init>", "(Ljava/lang/String;)V"⟩), (Cond.declares ⟨"java/lang/Throwable", "<init>", "()V"⟩), (Cond.declares ⟨"java/lang/Throwable", "<init>", "(Ljava/lang/String;)V"⟩), (Cond.castable "java/lang/UnsupportedOperationException" "java/lang/UnsupportedOperationException"), (Cond.castable "java/lang/IllegalArgumentException" "java/lang/IllegalArgumentException"), (Cond.castable "java/lang/IllegalStateException" "java/lang/IllegalStateException")]
theorem xk_ns_ok : ∀ w ∈ xk_ns, xm_isN w = true := by decide +kernel
def xk_tA : List xm_E := [.inr (0, [some 1, some 2, some 3, some 4, some 5, some 6, none, none, none]), .inr (1, [some 7]), .inr (2, [none, some 8, some 9, some 10, some 11, some 12, some 13, some 14]), .inr (3, [none, some 15, some 16, some 17]), .inr (4, [none, some 18, some 19, some 20, some 21, some 22, some 23, some 24]), .inr (5, [none, some 25, some 26, some 27]), .inr (6, [none, some 28, some 29, some 30, some 31, some 32, some 33]), .inl (1, 730, false), .inl (0, 20, false), .inl (0, 20, false), .inl (0, 20, false), .inl (0, 20, false), .inl (0, 20, false), .inl (0, 20, false), .inl (0, 160, false), .inl (0, 6, false), .inl (0, 6, false), .inl (0, 6, false), .inl (0, 80, false), .inl (0, 80, false), .inl (0, 80, false), .inl (0, 80, false), .inl (0, 80, false), .inl (0, 80, false), .inl (0, 80, false), .inl (0, 100, false), .inl (0, 100, false), .inl (0, 100, false), .inl (0, 60, false), .inl (0, 60, false), .inl (0, 60, false), .inl (0, 60, false), .inl (0, 60, false), .inl (0, 60, false)]
def xk_tM : List xm_E := [.inr (7, [none, none, some 1, none, some 2, some 3, some 4, some 5, some 6, some 7, some 8, none, none, some 9, some 10, some 11, none, some 12, some 13, some 14, some 15, some 16, some 17, some 18, none, some 19, some 20, some 21, none, some 22, some 23, some 24, some 25, some 26, some 27, some 28, none]), .inl (1, 730, false), .inl (0, 20, false), .inl (0, 20, false), .inl (0, 20, false), .inl (0, 20, false), .inl (0, 20, false), .inl (0, 20, false), .inl (0, 160, false), .inl (0, 6, false), .inl (0, 6, false), .inl (1, 120, false), .inl (0, 81, false), .inl (0, 81, false), .inl (0, 81, false), .inl (0, 81, false), .inl (0, 81, false), .inl (0, 81, false), .inl (0, 81, false), .inl (0, 100, false), .inl (0, 100, false), .inl (0, 100, false), .inl (0, 60, false), .inl (0, 60, false), .inl (0, 60, false), .inl (0, 60, false), .inl (0, 60, false), .inl (0, 60, false), .inl (1, 1200, false)]
def xm_pb (cls : List vw_C) (tp : List xm_E) : Bool := tp.all (fun en => match en with
  | .inl _ => true
  | .inr (ci, fk) => match cls[ci]? with
    | none => false
    | some q => (List.range fk.length).all (fun k => match fk[k]? with
      | some none => decide ((q.2.1 k).2.2.2 = false) && decide (parseFieldDescriptor (q.2.1 k).2.2.1 = some .int)
      | _ => true))
theorem xm_okP_of {fl : List (Nat × Nat × Nat)} {cls : List vw_C} {tp : List xm_E} (hb : xm_pb cls tp = true) (hc : ∀ q ∈ cls, ∃ ty0 : Nat → FieldType, (∀ k, k < q.2.2 → parseFieldDescriptor (q.2.1 k).2.2.1 = some (ty0 k)) ∧ (∀ a, a < q.2.2 → ∀ b, b < q.2.2 → a ≠ b → (q.2.1 a).2.1 ≠ (q.2.1 b).2.1)) : xm_okP fl cls tp := by
  intro n ci kf C T N _ hcl ⟨p, fk, h1, h2⟩
  obtain ⟨ty0, e1, e2⟩ := hc (C, T, N) (List.mem_of_getElem? hcl)
  have h3 := List.all_eq_true.mp hb _ (List.mem_of_getElem? h1)
  simp only [hcl] at h3
  have hlt : kf < fk.length := (List.getElem?_eq_some_iff.mp h2).1
  have h4 := List.all_eq_true.mp h3 kf (List.mem_range.mpr hlt)
  simp only [h2, Bool.and_eq_true, decide_eq_true_eq] at h4
  exact ⟨ty0, e1, e2, h4.1, h4.2⟩
theorem xk_tys : ∀ q ∈ xk_cl, ∃ ty0 : Nat → FieldType, (∀ k, k < q.2.2 → parseFieldDescriptor (q.2.1 k).2.2.1 = some (ty0 k)) ∧ (∀ a, a < q.2.2 → ∀ b, b < q.2.2 → a ≠ b → (q.2.1 a).2.1 ≠ (q.2.1 b).2.1) := List.forall_mem_cons.mpr ⟨⟨xk_t0, xk_p0, xk_n0⟩, List.forall_mem_cons.mpr ⟨⟨xk_t1, xk_p1, xk_n1⟩, List.forall_mem_cons.mpr ⟨⟨xk_t2, xk_p2, xk_n2⟩, List.forall_mem_cons.mpr ⟨⟨xk_t3, xk_p3, xk_n3⟩, List.forall_mem_cons.mpr ⟨⟨xk_t4, xk_p4, xk_n4⟩, List.forall_mem_cons.mpr ⟨⟨xk_t5, xk_p5, xk_n5⟩, List.forall_mem_cons.mpr ⟨⟨xk_t6, xk_p6, xk_n6⟩, List.forall_mem_cons.mpr ⟨⟨xk_t7, xk_p7, xk_n7⟩, fun _ h => absurd h List.not_mem_nil⟩⟩⟩⟩⟩⟩⟩⟩
theorem xk_pA : xm_pb xk_cl xk_tA = true := by decide +kernel
theorem xk_pM : xm_pb xk_cl xk_tM = true := by decide +kernel
def xm_flP (own : String) (q : Nat × Nat × Nat) : Prop := ∃ C T N, xk_cl[q.2.1]? = some (C, T, N) ∧ q.2.2 < N ∧ (∀ w ∈ u_ws C T N, w ∈ xt_T) ∧ (Cond.fieldLink own q.1 (T q.2.2).1 (T q.2.2).2.1 (T q.2.2).2.2.1 ∈ xt_T ∨ ∃ host, Cond.fieldLinkNest own q.1 (T q.2.2).1 (T q.2.2).2.1 (T q.2.2).2.2.1 host ∈ xk_ns)
def xf_A : List (Nat × Nat × Nat) := [(10, 0, 0), (19, 0, 1), (26, 0, 2), (33, 0, 3), (40, 0, 4), (47, 0, 5), (51, 0, 6), (55, 0, 7), (58, 0, 8), (76, 2, 0), (107, 2, 4), (111, 2, 5), (120, 1, 0), (138, 3, 0), (146, 3, 3), (184, 4, 0), (196, 4, 7), (199, 4, 1), (229, 4, 6), (237, 4, 2), (267, 5, 1), (270, 5, 2), (273, 5, 3), (278, 2, 7), (285, 6, 0), (296, 6, 3), (302, 6, 4), (303, 6, 5), (306, 6, 6), (309, 2, 6), (345, 4, 3), (348, 4, 4), (351, 4, 5), (357, 2, 2), (369, 3, 2), (381, 6, 1), (382, 6, 2), (386, 3, 1)]
theorem xf_A_ok : ∀ q ∈ xf_A, xm_flP "AbsenceRows" q := List.forall_mem_cons.mpr ⟨⟨xk_R0, xk_T0, 9, rfl, by decide, xk_w0, Or.inl (xt_in 231 (by decide +kernel) rfl)⟩, List.forall_mem_cons.mpr ⟨⟨xk_R0, xk_T0, 9, rfl, by decide, xk_w0, Or.inl (xt_in 232 (by decide +kernel) rfl)⟩, List.forall_mem_cons.mpr ⟨⟨xk_R0, xk_T0, 9, rfl, by decide, xk_w0, Or.inl (xt_in 233 (by decide +kernel) rfl)⟩, List.forall_mem_cons.mpr ⟨⟨xk_R0, xk_T0, 9, rfl, by decide, xk_w0, Or.inl (xt_in 234 (by decide +kernel) rfl)⟩, List.forall_mem_cons.mpr ⟨⟨xk_R0, xk_T0, 9, rfl, by decide, xk_w0, Or.inl (xt_in 235 (by decide +kernel) rfl)⟩, List.forall_mem_cons.mpr ⟨⟨xk_R0, xk_T0, 9, rfl, by decide, xk_w0, Or.inl (xt_in 236 (by decide +kernel) rfl)⟩, List.forall_mem_cons.mpr ⟨⟨xk_R0, xk_T0, 9, rfl, by decide, xk_w0, Or.inl (xt_in 237 (by decide +kernel) rfl)⟩, List.forall_mem_cons.mpr ⟨⟨xk_R0, xk_T0, 9, rfl, by decide, xk_w0, Or.inl (xt_in 238 (by decide +kernel) rfl)⟩, List.forall_mem_cons.mpr ⟨⟨xk_R0, xk_T0, 9, rfl, by decide, xk_w0, Or.inl (xt_in 239 (by decide +kernel) rfl)⟩, List.forall_mem_cons.mpr ⟨⟨xk_R2, xk_T2, 8, rfl, by decide, xk_w2, Or.inl (xt_in 81 (by decide +kernel) rfl)⟩, List.forall_mem_cons.mpr ⟨⟨xk_R2, xk_T2, 8, rfl, by decide, xk_w2, Or.inl (xt_in 87 (by decide +kernel) rfl)⟩, List.forall_mem_cons.mpr ⟨⟨xk_R2, xk_T2, 8, rfl, by decide, xk_w2, Or.inl (xt_in 89 (by decide +kernel) rfl)⟩, List.forall_mem_cons.mpr ⟨⟨xk_R1, xk_T1, 1, rfl, by decide, xk_w1, Or.inl (xt_in 69 (by decide +kernel) rfl)⟩, List.forall_mem_cons.mpr ⟨⟨xk_R3, xk_T3, 4, rfl, by decide, xk_w3, Or.inl (xt_in 119 (by decide +kernel) rfl)⟩, List.forall_mem_cons.mpr ⟨⟨xk_R3, xk_T3, 4, rfl, by decide, xk_w3, Or.inl (xt_in 125 (by decide +kernel) rfl)⟩, List.forall_mem_cons.mpr ⟨⟨xk_R4, xk_T4, 8, rfl, by decide, xk_w4, Or.inl (xt_in 142 (by decide +kernel) rfl)⟩, List.forall_mem_cons.mpr ⟨⟨xk_R4, xk_T4, 8, rfl, by decide, xk_w4, Or.inl (xt_in 156 (by decide +kernel) rfl)⟩, List.forall_mem_cons.mpr ⟨⟨xk_R4, xk_T4, 8, rfl, by decide, xk_w4, Or.inl (xt_in 144 (by decide +kernel) rfl)⟩, List.forall_mem_cons.mpr ⟨⟨xk_R4, xk_T4, 8, rfl, by decide, xk_w4, Or.inl (xt_in 154 (by decide +kernel) rfl)⟩, List.forall_mem_cons.mpr ⟨⟨xk_R4, xk_T4, 8, rfl, by decide, xk_w4, Or.inl (xt_in 146 (by decide +kernel) rfl)⟩, List.forall_mem_cons.mpr ⟨⟨xk_R5, xk_T5, 4, rfl, by decide, xk_w5, Or.inl (xt_in 182 (by decide +kernel) rfl)⟩, List.forall_mem_cons.mpr ⟨⟨xk_R5, xk_T5, 4, rfl, by decide, xk_w5, Or.inl (xt_in 184 (by decide +kernel) rfl)⟩, List.forall_mem_cons.mpr ⟨⟨xk_R5, xk_T5, 4, rfl, by decide, xk_w5, Or.inl (xt_in 186 (by decide +kernel) rfl)⟩, List.forall_mem_cons.mpr ⟨⟨xk_R2, xk_T2, 8, rfl, by decide, xk_w2, Or.inl (xt_in 93 (by decide +kernel) rfl)⟩, List.forall_mem_cons.mpr ⟨⟨xk_R6, xk_T6, 7, rfl, by decide, xk_w6, Or.inl (xt_in 203 (by decide +kernel) rfl)⟩, List.forall_mem_cons.mpr ⟨⟨xk_R6, xk_T6, 7, rfl, by decide, xk_w6, Or.inl (xt_in 209 (by decide +kernel) rfl)⟩, List.forall_mem_cons.mpr ⟨⟨xk_R6, xk_T6, 7, rfl, by decide, xk_w6, Or.inl (xt_in 211 (by decide +kernel) rfl)⟩, List.forall_mem_cons.mpr ⟨⟨xk_R6, xk_T6, 7, rfl, by decide, xk_w6, Or.inl (xt_in 213 (by decide +kernel) rfl)⟩, List.forall_mem_cons.mpr ⟨⟨xk_R6, xk_T6, 7, rfl, by decide, xk_w6, Or.inl (xt_in 215 (by decide +kernel) rfl)⟩, List.forall_mem_cons.mpr ⟨⟨xk_R2, xk_T2, 8, rfl, by decide, xk_w2, Or.inl (xt_in 91 (by decide +kernel) rfl)⟩, List.forall_mem_cons.mpr ⟨⟨xk_R4, xk_T4, 8, rfl, by decide, xk_w4, Or.inl (xt_in 148 (by decide +kernel) rfl)⟩, List.forall_mem_cons.mpr ⟨⟨xk_R4, xk_T4, 8, rfl, by decide, xk_w4, Or.inl (xt_in 150 (by decide +kernel) rfl)⟩, List.forall_mem_cons.mpr ⟨⟨xk_R4, xk_T4, 8, rfl, by decide, xk_w4, Or.inl (xt_in 152 (by decide +kernel) rfl)⟩, List.forall_mem_cons.mpr ⟨⟨xk_R2, xk_T2, 8, rfl, by decide, xk_w2, Or.inl (xt_in 84 (by decide +kernel) rfl)⟩, List.forall_mem_cons.mpr ⟨⟨xk_R3, xk_T3, 4, rfl, by decide, xk_w3, Or.inl (xt_in 123 (by decide +kernel) rfl)⟩, List.forall_mem_cons.mpr ⟨⟨xk_R6, xk_T6, 7, rfl, by decide, xk_w6, Or.inl (xt_in 205 (by decide +kernel) rfl)⟩, List.forall_mem_cons.mpr ⟨⟨xk_R6, xk_T6, 7, rfl, by decide, xk_w6, Or.inl (xt_in 207 (by decide +kernel) rfl)⟩, List.forall_mem_cons.mpr ⟨⟨xk_R3, xk_T3, 4, rfl, by decide, xk_w3, Or.inl (xt_in 121 (by decide +kernel) rfl)⟩, fun _ h => absurd h List.not_mem_nil⟩⟩⟩⟩⟩⟩⟩⟩⟩⟩⟩⟩⟩⟩⟩⟩⟩⟩⟩⟩⟩⟩⟩⟩⟩⟩⟩⟩⟩⟩⟩⟩⟩⟩⟩⟩⟩⟩
def xf_C : List (Nat × Nat × Nat) := [(9, 1, 0)]
theorem xf_C_ok : ∀ q ∈ xf_C, xm_flP "AbsenceRows$Calendar" q := List.forall_mem_cons.mpr ⟨⟨xk_R1, xk_T1, 1, rfl, by decide, xk_w1, Or.inl (xt_in 68 (by decide +kernel) rfl)⟩, fun _ h => absurd h List.not_mem_nil⟩
def xf_P : List (Nat × Nat × Nat) := [(9, 2, 0), (15, 2, 1), (19, 2, 2), (22, 2, 3), (25, 2, 4), (28, 2, 5), (31, 2, 6), (34, 2, 7)]
theorem xf_P_ok : ∀ q ∈ xf_P, xm_flP "AbsenceRows$Persons" q := List.forall_mem_cons.mpr ⟨⟨xk_R2, xk_T2, 8, rfl, by decide, xk_w2, Or.inl (xt_in 80 (by decide +kernel) rfl)⟩, List.forall_mem_cons.mpr ⟨⟨xk_R2, xk_T2, 8, rfl, by decide, xk_w2, Or.inl (xt_in 82 (by decide +kernel) rfl)⟩, List.forall_mem_cons.mpr ⟨⟨xk_R2, xk_T2, 8, rfl, by decide, xk_w2, Or.inl (xt_in 83 (by decide +kernel) rfl)⟩, List.forall_mem_cons.mpr ⟨⟨xk_R2, xk_T2, 8, rfl, by decide, xk_w2, Or.inl (xt_in 85 (by decide +kernel) rfl)⟩, List.forall_mem_cons.mpr ⟨⟨xk_R2, xk_T2, 8, rfl, by decide, xk_w2, Or.inl (xt_in 86 (by decide +kernel) rfl)⟩, List.forall_mem_cons.mpr ⟨⟨xk_R2, xk_T2, 8, rfl, by decide, xk_w2, Or.inl (xt_in 88 (by decide +kernel) rfl)⟩, List.forall_mem_cons.mpr ⟨⟨xk_R2, xk_T2, 8, rfl, by decide, xk_w2, Or.inl (xt_in 90 (by decide +kernel) rfl)⟩, List.forall_mem_cons.mpr ⟨⟨xk_R2, xk_T2, 8, rfl, by decide, xk_w2, Or.inl (xt_in 92 (by decide +kernel) rfl)⟩, fun _ h => absurd h List.not_mem_nil⟩⟩⟩⟩⟩⟩⟩⟩
def xf_W : List (Nat × Nat × Nat) := [(9, 3, 0), (15, 3, 1), (19, 3, 2), (22, 3, 3)]
theorem xf_W_ok : ∀ q ∈ xf_W, xm_flP "AbsenceRows$Crews" q := List.forall_mem_cons.mpr ⟨⟨xk_R3, xk_T3, 4, rfl, by decide, xk_w3, Or.inl (xt_in 118 (by decide +kernel) rfl)⟩, List.forall_mem_cons.mpr ⟨⟨xk_R3, xk_T3, 4, rfl, by decide, xk_w3, Or.inl (xt_in 120 (by decide +kernel) rfl)⟩, List.forall_mem_cons.mpr ⟨⟨xk_R3, xk_T3, 4, rfl, by decide, xk_w3, Or.inl (xt_in 122 (by decide +kernel) rfl)⟩, List.forall_mem_cons.mpr ⟨⟨xk_R3, xk_T3, 4, rfl, by decide, xk_w3, Or.inl (xt_in 124 (by decide +kernel) rfl)⟩, fun _ h => absurd h List.not_mem_nil⟩⟩⟩⟩
def xf_K : List (Nat × Nat × Nat) := [(9, 4, 0), (15, 4, 1), (19, 4, 2), (22, 4, 3), (25, 4, 4), (28, 4, 5), (31, 4, 6), (34, 4, 7)]
theorem xf_K_ok : ∀ q ∈ xf_K, xm_flP "AbsenceRows$Asks" q := List.forall_mem_cons.mpr ⟨⟨xk_R4, xk_T4, 8, rfl, by decide, xk_w4, Or.inl (xt_in 141 (by decide +kernel) rfl)⟩, List.forall_mem_cons.mpr ⟨⟨xk_R4, xk_T4, 8, rfl, by decide, xk_w4, Or.inl (xt_in 143 (by decide +kernel) rfl)⟩, List.forall_mem_cons.mpr ⟨⟨xk_R4, xk_T4, 8, rfl, by decide, xk_w4, Or.inl (xt_in 145 (by decide +kernel) rfl)⟩, List.forall_mem_cons.mpr ⟨⟨xk_R4, xk_T4, 8, rfl, by decide, xk_w4, Or.inl (xt_in 147 (by decide +kernel) rfl)⟩, List.forall_mem_cons.mpr ⟨⟨xk_R4, xk_T4, 8, rfl, by decide, xk_w4, Or.inl (xt_in 149 (by decide +kernel) rfl)⟩, List.forall_mem_cons.mpr ⟨⟨xk_R4, xk_T4, 8, rfl, by decide, xk_w4, Or.inl (xt_in 151 (by decide +kernel) rfl)⟩, List.forall_mem_cons.mpr ⟨⟨xk_R4, xk_T4, 8, rfl, by decide, xk_w4, Or.inl (xt_in 153 (by decide +kernel) rfl)⟩, List.forall_mem_cons.mpr ⟨⟨xk_R4, xk_T4, 8, rfl, by decide, xk_w4, Or.inl (xt_in 155 (by decide +kernel) rfl)⟩, fun _ h => absurd h List.not_mem_nil⟩⟩⟩⟩⟩⟩⟩⟩
def xf_H : List (Nat × Nat × Nat) := [(9, 5, 0), (15, 5, 1), (19, 5, 2), (22, 5, 3)]
theorem xf_H_ok : ∀ q ∈ xf_H, xm_flP "AbsenceRows$HeldRows" q := List.forall_mem_cons.mpr ⟨⟨xk_R5, xk_T5, 4, rfl, by decide, xk_w5, Or.inl (xt_in 180 (by decide +kernel) rfl)⟩, List.forall_mem_cons.mpr ⟨⟨xk_R5, xk_T5, 4, rfl, by decide, xk_w5, Or.inl (xt_in 181 (by decide +kernel) rfl)⟩, List.forall_mem_cons.mpr ⟨⟨xk_R5, xk_T5, 4, rfl, by decide, xk_w5, Or.inl (xt_in 183 (by decide +kernel) rfl)⟩, List.forall_mem_cons.mpr ⟨⟨xk_R5, xk_T5, 4, rfl, by decide, xk_w5, Or.inl (xt_in 185 (by decide +kernel) rfl)⟩, fun _ h => absurd h List.not_mem_nil⟩⟩⟩⟩
def xf_L : List (Nat × Nat × Nat) := [(9, 6, 0), (15, 6, 1), (19, 6, 2), (22, 6, 3), (25, 6, 4), (28, 6, 5), (31, 6, 6)]
theorem xf_L_ok : ∀ q ∈ xf_L, xm_flP "AbsenceRows$Calls" q := List.forall_mem_cons.mpr ⟨⟨xk_R6, xk_T6, 7, rfl, by decide, xk_w6, Or.inl (xt_in 202 (by decide +kernel) rfl)⟩, List.forall_mem_cons.mpr ⟨⟨xk_R6, xk_T6, 7, rfl, by decide, xk_w6, Or.inl (xt_in 204 (by decide +kernel) rfl)⟩, List.forall_mem_cons.mpr ⟨⟨xk_R6, xk_T6, 7, rfl, by decide, xk_w6, Or.inl (xt_in 206 (by decide +kernel) rfl)⟩, List.forall_mem_cons.mpr ⟨⟨xk_R6, xk_T6, 7, rfl, by decide, xk_w6, Or.inl (xt_in 208 (by decide +kernel) rfl)⟩, List.forall_mem_cons.mpr ⟨⟨xk_R6, xk_T6, 7, rfl, by decide, xk_w6, Or.inl (xt_in 210 (by decide +kernel) rfl)⟩, List.forall_mem_cons.mpr ⟨⟨xk_R6, xk_T6, 7, rfl, by decide, xk_w6, Or.inl (xt_in 212 (by decide +kernel) rfl)⟩, List.forall_mem_cons.mpr ⟨⟨xk_R6, xk_T6, 7, rfl, by decide, xk_w6, Or.inl (xt_in 214 (by decide +kernel) rfl)⟩, fun _ h => absurd h List.not_mem_nil⟩⟩⟩⟩⟩⟩⟩
def xf_M : List (Nat × Nat × Nat) := [(7, 7, 2), (13, 7, 4), (17, 7, 5), (20, 7, 6), (23, 7, 7), (26, 7, 8), (29, 7, 9), (32, 7, 10), (35, 7, 13), (38, 7, 14), (41, 7, 15), (44, 7, 17), (47, 7, 18), (50, 7, 19), (53, 7, 20), (56, 7, 21), (59, 7, 22), (62, 7, 23), (65, 7, 25), (68, 7, 26), (71, 7, 27), (74, 7, 29), (77, 7, 30), (80, 7, 31), (83, 7, 32), (86, 7, 33), (89, 7, 34), (92, 7, 35), (95, 7, 36), (99, 7, 0), (106, 7, 3), (109, 7, 12), (129, 7, 16), (142, 7, 11), (160, 7, 28), (186, 7, 24), (195, 7, 1)]
theorem xf_M_ok : ∀ q ∈ xf_M, xm_flP "AbsenceRowsModel" q := List.forall_mem_cons.mpr ⟨⟨xk_R7, xk_T7, 37, rfl, by decide, xk_w7, Or.inl (xt_in 808 (by decide +kernel) rfl)⟩, List.forall_mem_cons.mpr ⟨⟨xk_R7, xk_T7, 37, rfl, by decide, xk_w7, Or.inl (xt_in 810 (by decide +kernel) rfl)⟩, List.forall_mem_cons.mpr ⟨⟨xk_R7, xk_T7, 37, rfl, by decide, xk_w7, Or.inl (xt_in 811 (by decide +kernel) rfl)⟩, List.forall_mem_cons.mpr ⟨⟨xk_R7, xk_T7, 37, rfl, by decide, xk_w7, Or.inl (xt_in 812 (by decide +kernel) rfl)⟩, List.forall_mem_cons.mpr ⟨⟨xk_R7, xk_T7, 37, rfl, by decide, xk_w7, Or.inl (xt_in 813 (by decide +kernel) rfl)⟩, List.forall_mem_cons.mpr ⟨⟨xk_R7, xk_T7, 37, rfl, by decide, xk_w7, Or.inl (xt_in 814 (by decide +kernel) rfl)⟩, List.forall_mem_cons.mpr ⟨⟨xk_R7, xk_T7, 37, rfl, by decide, xk_w7, Or.inl (xt_in 815 (by decide +kernel) rfl)⟩, List.forall_mem_cons.mpr ⟨⟨xk_R7, xk_T7, 37, rfl, by decide, xk_w7, Or.inl (xt_in 816 (by decide +kernel) rfl)⟩, List.forall_mem_cons.mpr ⟨⟨xk_R7, xk_T7, 37, rfl, by decide, xk_w7, Or.inl (xt_in 819 (by decide +kernel) rfl)⟩, List.forall_mem_cons.mpr ⟨⟨xk_R7, xk_T7, 37, rfl, by decide, xk_w7, Or.inl (xt_in 820 (by decide +kernel) rfl)⟩, List.forall_mem_cons.mpr ⟨⟨xk_R7, xk_T7, 37, rfl, by decide, xk_w7, Or.inl (xt_in 821 (by decide +kernel) rfl)⟩, List.forall_mem_cons.mpr ⟨⟨xk_R7, xk_T7, 37, rfl, by decide, xk_w7, Or.inl (xt_in 823 (by decide +kernel) rfl)⟩, List.forall_mem_cons.mpr ⟨⟨xk_R7, xk_T7, 37, rfl, by decide, xk_w7, Or.inl (xt_in 824 (by decide +kernel) rfl)⟩, List.forall_mem_cons.mpr ⟨⟨xk_R7, xk_T7, 37, rfl, by decide, xk_w7, Or.inl (xt_in 825 (by decide +kernel) rfl)⟩, List.forall_mem_cons.mpr ⟨⟨xk_R7, xk_T7, 37, rfl, by decide, xk_w7, Or.inl (xt_in 826 (by decide +kernel) rfl)⟩, List.forall_mem_cons.mpr ⟨⟨xk_R7, xk_T7, 37, rfl, by decide, xk_w7, Or.inl (xt_in 827 (by decide +kernel) rfl)⟩, List.forall_mem_cons.mpr ⟨⟨xk_R7, xk_T7, 37, rfl, by decide, xk_w7, Or.inl (xt_in 828 (by decide +kernel) rfl)⟩, List.forall_mem_cons.mpr ⟨⟨xk_R7, xk_T7, 37, rfl, by decide, xk_w7, Or.inl (xt_in 829 (by decide +kernel) rfl)⟩, List.forall_mem_cons.mpr ⟨⟨xk_R7, xk_T7, 37, rfl, by decide, xk_w7, Or.inl (xt_in 831 (by decide +kernel) rfl)⟩, List.forall_mem_cons.mpr ⟨⟨xk_R7, xk_T7, 37, rfl, by decide, xk_w7, Or.inl (xt_in 832 (by decide +kernel) rfl)⟩, List.forall_mem_cons.mpr ⟨⟨xk_R7, xk_T7, 37, rfl, by decide, xk_w7, Or.inl (xt_in 833 (by decide +kernel) rfl)⟩, List.forall_mem_cons.mpr ⟨⟨xk_R7, xk_T7, 37, rfl, by decide, xk_w7, Or.inl (xt_in 835 (by decide +kernel) rfl)⟩, List.forall_mem_cons.mpr ⟨⟨xk_R7, xk_T7, 37, rfl, by decide, xk_w7, Or.inl (xt_in 836 (by decide +kernel) rfl)⟩, List.forall_mem_cons.mpr ⟨⟨xk_R7, xk_T7, 37, rfl, by decide, xk_w7, Or.inl (xt_in 837 (by decide +kernel) rfl)⟩, List.forall_mem_cons.mpr ⟨⟨xk_R7, xk_T7, 37, rfl, by decide, xk_w7, Or.inl (xt_in 838 (by decide +kernel) rfl)⟩, List.forall_mem_cons.mpr ⟨⟨xk_R7, xk_T7, 37, rfl, by decide, xk_w7, Or.inl (xt_in 839 (by decide +kernel) rfl)⟩, List.forall_mem_cons.mpr ⟨⟨xk_R7, xk_T7, 37, rfl, by decide, xk_w7, Or.inl (xt_in 840 (by decide +kernel) rfl)⟩, List.forall_mem_cons.mpr ⟨⟨xk_R7, xk_T7, 37, rfl, by decide, xk_w7, Or.inl (xt_in 841 (by decide +kernel) rfl)⟩, List.forall_mem_cons.mpr ⟨⟨xk_R7, xk_T7, 37, rfl, by decide, xk_w7, Or.inl (xt_in 842 (by decide +kernel) rfl)⟩, List.forall_mem_cons.mpr ⟨⟨xk_R7, xk_T7, 37, rfl, by decide, xk_w7, Or.inl (xt_in 806 (by decide +kernel) rfl)⟩, List.forall_mem_cons.mpr ⟨⟨xk_R7, xk_T7, 37, rfl, by decide, xk_w7, Or.inl (xt_in 809 (by decide +kernel) rfl)⟩, List.forall_mem_cons.mpr ⟨⟨xk_R7, xk_T7, 37, rfl, by decide, xk_w7, Or.inl (xt_in 818 (by decide +kernel) rfl)⟩, List.forall_mem_cons.mpr ⟨⟨xk_R7, xk_T7, 37, rfl, by decide, xk_w7, Or.inl (xt_in 822 (by decide +kernel) rfl)⟩, List.forall_mem_cons.mpr ⟨⟨xk_R7, xk_T7, 37, rfl, by decide, xk_w7, Or.inl (xt_in 817 (by decide +kernel) rfl)⟩, List.forall_mem_cons.mpr ⟨⟨xk_R7, xk_T7, 37, rfl, by decide, xk_w7, Or.inl (xt_in 834 (by decide +kernel) rfl)⟩, List.forall_mem_cons.mpr ⟨⟨xk_R7, xk_T7, 37, rfl, by decide, xk_w7, Or.inl (xt_in 830 (by decide +kernel) rfl)⟩, List.forall_mem_cons.mpr ⟨⟨xk_R7, xk_T7, 37, rfl, by decide, xk_w7, Or.inl (xt_in 807 (by decide +kernel) rfl)⟩, fun _ h => absurd h List.not_mem_nil⟩⟩⟩⟩⟩⟩⟩⟩⟩⟩⟩⟩⟩⟩⟩⟩⟩⟩⟩⟩⟩⟩⟩⟩⟩⟩⟩⟩⟩⟩⟩⟩⟩⟩⟩⟩⟩
theorem xs_A : xm_stt "AbsenceRows" xt_T xk_ns xk_cl xk_tA xf_A [] [] := ⟨xt_good, xk_ns_ok, fun _ _ h => absurd h List.not_mem_nil, fun _ _ h => absurd h List.not_mem_nil, xm_okP_of xk_pA xk_tys, fun n ci kf h => xf_A_ok (n, ci, kf) h⟩
theorem xs_C : xm_stt "AbsenceRows$Calendar" xt_T xk_ns xk_cl xk_tA xf_C [] [] := ⟨xt_good, xk_ns_ok, fun _ _ h => absurd h List.not_mem_nil, fun _ _ h => absurd h List.not_mem_nil, xm_okP_of xk_pA xk_tys, fun n ci kf h => xf_C_ok (n, ci, kf) h⟩
theorem xs_P : xm_stt "AbsenceRows$Persons" xt_T xk_ns xk_cl xk_tA xf_P [] [] := ⟨xt_good, xk_ns_ok, fun _ _ h => absurd h List.not_mem_nil, fun _ _ h => absurd h List.not_mem_nil, xm_okP_of xk_pA xk_tys, fun n ci kf h => xf_P_ok (n, ci, kf) h⟩
theorem xs_W : xm_stt "AbsenceRows$Crews" xt_T xk_ns xk_cl xk_tA xf_W [] [] := ⟨xt_good, xk_ns_ok, fun _ _ h => absurd h List.not_mem_nil, fun _ _ h => absurd h List.not_mem_nil, xm_okP_of xk_pA xk_tys, fun n ci kf h => xf_W_ok (n, ci, kf) h⟩
theorem xs_K : xm_stt "AbsenceRows$Asks" xt_T xk_ns xk_cl xk_tA xf_K [] [] := ⟨xt_good, xk_ns_ok, fun _ _ h => absurd h List.not_mem_nil, fun _ _ h => absurd h List.not_mem_nil, xm_okP_of xk_pA xk_tys, fun n ci kf h => xf_K_ok (n, ci, kf) h⟩
theorem xs_H : xm_stt "AbsenceRows$HeldRows" xt_T xk_ns xk_cl xk_tA xf_H [] [] := ⟨xt_good, xk_ns_ok, fun _ _ h => absurd h List.not_mem_nil, fun _ _ h => absurd h List.not_mem_nil, xm_okP_of xk_pA xk_tys, fun n ci kf h => xf_H_ok (n, ci, kf) h⟩
theorem xs_L : xm_stt "AbsenceRows$Calls" xt_T xk_ns xk_cl xk_tA xf_L [] [] := ⟨xt_good, xk_ns_ok, fun _ _ h => absurd h List.not_mem_nil, fun _ _ h => absurd h List.not_mem_nil, xm_okP_of xk_pA xk_tys, fun n ci kf h => xf_L_ok (n, ci, kf) h⟩
def xj_M : List (Nat × Int64) := [(127, 2), (136, 365)]
theorem xj_M_ok : ∀ q ∈ xj_M, Cond.constantLong "AbsenceRowsModel" q.1 q.2 ∈ xt_T := List.forall_mem_cons.mpr ⟨xt_in 956 (by decide +kernel) rfl, List.forall_mem_cons.mpr ⟨xt_in 969 (by decide +kernel) rfl, fun _ h => absurd h List.not_mem_nil⟩⟩
theorem xs_M : xm_stt "AbsenceRowsModel" xt_T xk_ns xk_cl xk_tM xf_M [] xj_M := ⟨xt_good, xk_ns_ok, fun _ _ h => absurd h List.not_mem_nil, fun n v h => xj_M_ok (n, v) h, xm_okP_of xk_pM xk_tys, fun n ci kf h => xf_M_ok (n, ci, kf) h⟩
def xc_I : List (Nat × Int32) := [(265, 1431655765), (266, 858993459), (267, 252645135)]
theorem xc_I_ok : ∀ q ∈ xc_I, Cond.constant "java/lang/Integer" q.1 q.2 ∈ xt_T := List.forall_mem_cons.mpr ⟨xt_in 535 (by decide +kernel) rfl, List.forall_mem_cons.mpr ⟨xt_in 536 (by decide +kernel) rfl, List.forall_mem_cons.mpr ⟨xt_in 537 (by decide +kernel) rfl, fun _ h => absurd h List.not_mem_nil⟩⟩⟩
theorem xs_I : xm_stt "java/lang/Integer" xt_T xk_ns xk_cl xk_tA [] xc_I [] := ⟨xt_good, xk_ns_ok, fun n v h => xc_I_ok (n, v) h, fun _ _ h => absurd h List.not_mem_nil, xm_okP_of xk_pA xk_tys, fun n ci kf h => absurd h List.not_mem_nil⟩
theorem xs_J : xm_stt "java/lang/Math" xt_T xk_ns xk_cl xk_tA [] [] [] := ⟨xt_good, xk_ns_ok, fun _ _ h => absurd h List.not_mem_nil, fun _ _ h => absurd h List.not_mem_nil, xm_okP_of xk_pA xk_tys, fun n ci kf h => absurd h List.not_mem_nil⟩
end
section
/-! PROGRAMS of the methods, with the rows that decode them at once -/
abbrev xb_A_person : ByteArray := prog_1_method_2_code
def xy_A_person : MethodName := ⟨"AbsenceRows", "person", "(III)I"⟩
def xp_A_person : xm_P := [(0, .iload_n 1, 1, none), (1, .iconst 0, 1, none), (2, .sipush 255, 3, none), (5, .invokestatic 61, 3, none), (8, .ifCond .eq 20, 3, none), (11, .iload_n 2, 1, none), (12, .iconst 0, 1, none), (13, .bipush 9, 2, none), (15, .invokestatic 61, 3, none), (18, .ifCond .eq 10, 3, none), (21, .iload_n 3, 1, none), (22, .invokestatic 65, 3, none), (25, .ifCond .ne 13, 3, none), (28, .new 69, 3, none), (31, .dup, 1, none), (32, .ldc 71, 2, none), (34, .invokespecial 73, 3, none), (37, .athrow, 1, none), (38, .aload_n 0, 1, none), (39, .getfield 19, 3, none), (42, .getfield 76, 3, none), (45, .bipush 20, 2, none), (47, .if_icmp .lt 13, 3, none), (50, .new 79, 3, none), (53, .dup, 1, none), (54, .ldc 81, 2, none), (56, .invokespecial 83, 3, none), (59, .athrow, 1, none), (60, .aload_n 0, 1, none), (61, .getfield 19, 3, none), (64, .iload_n 1, 1, none), (65, .iload_n 2, 1, none), (66, .iload_n 3, 1, none), (67, .invokevirtual 84, 3, none), (70, .ireturn, 1, none)]
theorem xd_A_person : xm_chb xb_A_person xp_A_person = true := by decide +kernel
theorem xe_A_person : Cond.code xy_A_person xb_A_person 4 (some .int) ∈ xt_T := xt_in 267 (by decide +kernel) rfl
abbrev xb_A_isWithin : ByteArray := prog_1_method_40_code
def xy_A_isWithin : MethodName := ⟨"AbsenceRows", "isWithin", "(III)Z"⟩
def xp_A_isWithin : xm_P := [(0, .iload_n 0, 1, none), (1, .iload_n 1, 1, none), (2, .if_icmp .lt 12, 3, none), (5, .iload_n 0, 1, none), (6, .iload_n 2, 1, none), (7, .if_icmp .gt 7, 3, none), (10, .iconst 1, 1, none), (11, .goto 4, 3, none), (14, .iconst 0, 1, none), (15, .ireturn, 1, none)]
theorem xd_A_isWithin : xm_chb xb_A_isWithin xp_A_isWithin = true := by decide +kernel
theorem xe_A_isWithin : Cond.code xy_A_isWithin xb_A_isWithin 3 (some .boolean) ∈ xt_T := xt_in 270 (by decide +kernel) rfl
abbrev xb_A_isDay : ByteArray := prog_1_method_41_code
def xy_A_isDay : MethodName := ⟨"AbsenceRows", "isDay", "(I)Z"⟩
def xp_A_isDay : xm_P := [(0, .iload_n 0, 1, none), (1, .iconst 0, 1, none), (2, .sipush 729, 3, none), (5, .invokestatic 61, 3, none), (8, .ireturn, 1, none)]
theorem xd_A_isDay : xm_chb xb_A_isDay xp_A_isDay = true := by decide +kernel
theorem xe_A_isDay : Cond.code xy_A_isDay xb_A_isDay 1 (some .boolean) ∈ xt_T := xt_in 273 (by decide +kernel) rfl
abbrev xb_P_add : ByteArray := prog_7_method_3_code
def xy_P_add : MethodName := ⟨"AbsenceRows$Persons", "add", "(III)I"⟩
def xp_P_add : xm_P := [(0, .aload_n 0, 1, none), (1, .getfield 15, 3, none), (4, .aload_n 0, 1, none), (5, .getfield 9, 3, none), (8, .iload_n 1, 1, none), (9, .iastore, 1, none), (10, .aload_n 0, 1, none), (11, .getfield 19, 3, none), (14, .aload_n 0, 1, none), (15, .getfield 9, 3, none), (18, .iload_n 2, 1, none), (19, .iastore, 1, none), (20, .aload_n 0, 1, none), (21, .getfield 22, 3, none), (24, .aload_n 0, 1, none), (25, .getfield 9, 3, none), (28, .iload_n 3, 1, none), (29, .iastore, 1, none), (30, .aload_n 0, 1, none), (31, .getfield 28, 3, none), (34, .aload_n 0, 1, none), (35, .getfield 9, 3, none), (38, .iconst 1, 1, none), (39, .iastore, 1, none), (40, .aload_n 0, 1, none), (41, .dup, 1, none), (42, .getfield 9, 3, none), (45, .iconst 1, 1, none), (46, .iadd, 1, none), (47, .putfield 9, 3, none), (50, .aload_n 0, 1, none), (51, .getfield 9, 3, none), (54, .iconst 1, 1, none), (55, .isub, 1, none), (56, .ireturn, 1, none)]
theorem xd_P_add : xm_chb xb_P_add xp_P_add = true := by decide +kernel
theorem xe_P_add : Cond.code xy_P_add xb_P_add 4 (some .int) ∈ xt_T := xt_in 362 (by decide +kernel) rfl
abbrev xb_A_budget : ByteArray := prog_1_method_3_code
def xy_A_budget : MethodName := ⟨"AbsenceRows", "budget", "(III)V"⟩
def xp_A_budget : xm_P := [(0, .aload_n 0, 1, none), (1, .getfield 19, 3, none), (4, .iload_n 1, 1, none), (5, .invokevirtual 88, 3, none), (8, .ifCond .ne 13, 3, none), (11, .new 91, 3, none), (14, .dup, 1, none), (15, .ldc 93, 2, none), (17, .invokespecial 95, 3, none), (20, .athrow, 1, none), (21, .iload_n 2, 1, none), (22, .iconst 0, 1, none), (23, .sipush 400, 3, none), (26, .invokestatic 61, 3, none), (29, .ifCond .eq 13, 3, none), (32, .iload_n 3, 1, none), (33, .iconst 1, 1, none), (34, .bipush 12, 2, none), (36, .invokestatic 61, 3, none), (39, .ifCond .ne 13, 3, none), (42, .new 69, 3, none), (45, .dup, 1, none), (46, .ldc 96, 2, none), (48, .invokespecial 73, 3, none), (51, .athrow, 1, none), (52, .aload_n 0, 1, none), (53, .iload_n 2, 1, none), (54, .iload_n 3, 1, none), (55, .iload_n 1, 1, none), (56, .iconst 0, 1, none), (57, .iconst 0, 1, none), (58, .invokevirtual 98, 3, none), (61, .ifCond .ne 13, 3, none), (64, .new 102, 3, none), (67, .dup, 1, none), (68, .ldc 104, 2, none), (70, .invokespecial 106, 3, none), (73, .athrow, 1, none), (74, .aload_n 0, 1, none), (75, .getfield 19, 3, none), (78, .getfield 107, 3, none), (81, .iload_n 1, 1, none), (82, .iload_n 2, 1, none), (83, .iastore, 1, none), (84, .aload_n 0, 1, none), (85, .getfield 19, 3, none), (88, .getfield 111, 3, none), (91, .iload_n 1, 1, none), (92, .iload_n 3, 1, none), (93, .iastore, 1, none), (94, .return_, 1, none)]
theorem xd_A_budget : xm_chb xb_A_budget xp_A_budget = true := by decide +kernel
theorem xe_A_budget : Cond.code xy_A_budget xb_A_budget 4 none ∈ xt_T := xt_in 371 (by decide +kernel) rfl
abbrev xb_P_has : ByteArray := prog_7_method_2_code
def xy_P_has : MethodName := ⟨"AbsenceRows$Persons", "has", "(I)Z"⟩
def xp_P_has : xm_P := [(0, .iload_n 1, 1, none), (1, .iconst 0, 1, none), (2, .aload_n 0, 1, none), (3, .getfield 9, 3, none), (6, .iconst 1, 1, none), (7, .isub, 1, none), (8, .invokestatic 37, 3, none), (11, .ireturn, 1, none)]
theorem xd_P_has : xm_chb xb_P_has xp_P_has = true := by decide +kernel
theorem xe_P_has : Cond.code xy_P_has xb_P_has 2 (some .boolean) ∈ xt_T := xt_in 375 (by decide +kernel) rfl
abbrev xb_A_isEnough : ByteArray := prog_1_method_29_code
def xy_A_isEnough : MethodName := ⟨"AbsenceRows", "isEnough", "(IIIII)Z"⟩
def xp_A_isEnough : xm_P := [(0, .aload_n 0, 1, none), (1, .iload_n 1, 1, none), (2, .iload_n 2, 1, none), (3, .iload_n 3, 1, none), (4, .iconst 0, 1, none), (5, .iload 4, 2, none), (7, .invokevirtual 336, 3, none), (10, .istore 6, 2, none), (12, .aload_n 0, 1, none), (13, .iload_n 1, 1, none), (14, .iload_n 2, 1, none), (15, .iload_n 3, 1, none), (16, .iconst 1, 1, none), (17, .iload 5, 2, none), (19, .invokevirtual 336, 3, none), (22, .istore 7, 2, none), (24, .iload 6, 2, none), (26, .ifCond .lt 20, 3, none), (29, .iload 7, 2, none), (31, .aload_n 0, 1, none), (32, .iload_n 2, 1, none), (33, .iload 6, 2, none), (35, .invokevirtual 339, 3, none), (38, .iadd, 1, none), (39, .ifCond .lt 7, 3, none), (42, .iconst 1, 1, none), (43, .goto 4, 3, none), (46, .iconst 0, 1, none), (47, .ireturn, 1, none)]
theorem xd_A_isEnough : xm_chb xb_A_isEnough xp_A_isEnough = true := by decide +kernel
theorem xe_A_isEnough : Cond.code xy_A_isEnough xb_A_isEnough 8 (some .boolean) ∈ xt_T := xt_in 397 (by decide +kernel) rfl
abbrev xb_A_partsOfYear : ByteArray := prog_1_method_26_code
def xy_A_partsOfYear : MethodName := ⟨"AbsenceRows", "partsOfYear", "(IIIII)I"⟩
def xp_A_partsOfYear : xm_P := [(0, .aload_n 0, 1, none), (1, .iload_n 3, 1, none), (2, .iload 4, 2, none), (4, .invokevirtual 319, 3, none), (7, .iload 5, 2, none), (9, .iadd, 1, none), (10, .istore 6, 2, none), (12, .iconst 2, 1, none), (13, .iload_n 1, 1, none), (14, .imul, 1, none), (15, .aload_n 0, 1, none), (16, .getfield 19, 3, none), (19, .iload_n 3, 1, none), (20, .iload 4, 2, none), (22, .invokevirtual 322, 3, none), (25, .imul, 1, none), (26, .iload_n 2, 1, none), (27, .invokestatic 325, 3, none), (30, .iload 6, 2, none), (32, .imul, 1, none), (33, .isub, 1, none), (34, .ireturn, 1, none)]
theorem xd_A_partsOfYear : xm_chb xb_A_partsOfYear xp_A_partsOfYear = true := by decide +kernel
theorem xe_A_partsOfYear : Cond.code xy_A_partsOfYear xb_A_partsOfYear 7 (some .int) ∈ xt_T := xt_in 401 (by decide +kernel) rfl
abbrev xb_A_halfDaysOfHoliday : ByteArray := prog_1_method_32_code
def xy_A_halfDaysOfHoliday : MethodName := ⟨"AbsenceRows", "halfDaysOfHoliday", "(II)I"⟩
def xp_A_halfDaysOfHoliday : xm_P := [(0, .iconst 0, 1, none), (1, .istore_n 3, 1, none), (2, .iconst 0, 1, none), (3, .istore 4, 2, none), (5, .iload 4, 2, some [0, 1, 2, 3, 4]), (7, .aload_n 0, 1, none), (8, .getfield 33, 3, none), (11, .getfield 184, 3, none), (14, .if_icmp .ge 61, 3, none), (17, .aload_n 0, 1, none), (18, .getfield 33, 3, none), (21, .iload 4, 2, none), (23, .invokevirtual 354, 3, none), (26, .ifCond .eq 43, 3, none), (29, .aload_n 0, 1, none), (30, .getfield 33, 3, none), (33, .getfield 199, 3, none), (36, .iload 4, 2, none), (38, .iaload, 1, none), (39, .iload_n 1, 1, none), (40, .if_icmp .ne 29, 3, none), (43, .aload_n 0, 1, none), (44, .getfield 33, 3, none), (47, .getfield 345, 3, none), (50, .iload 4, 2, none), (52, .iaload, 1, none), (53, .invokestatic 165, 3, none), (56, .iload_n 2, 1, none), (57, .if_icmp .ne 12, 3, none), (60, .iload_n 3, 1, none), (61, .aload_n 0, 1, none), (62, .iload 4, 2, none), (64, .invokevirtual 234, 3, none), (67, .iadd, 1, none), (68, .istore_n 3, 1, none), (69, .iinc 4 1, 3, none), (72, .goto (-67), 3, none), (75, .iload_n 3, 1, none), (76, .ireturn, 1, none)]
theorem xd_A_halfDaysOfHoliday : xm_chb xb_A_halfDaysOfHoliday xp_A_halfDaysOfHoliday = true := by decide +kernel
theorem xe_A_halfDaysOfHoliday : Cond.code xy_A_halfDaysOfHoliday xb_A_halfDaysOfHoliday 5 (some .int) ∈ xt_T := xt_in 405 (by decide +kernel) rfl
abbrev xb_K_takesFromBudget : ByteArray := prog_2_method_9_code
def xy_K_takesFromBudget : MethodName := ⟨"AbsenceRows$Asks", "takesFromBudget", "(I)Z"⟩
def xp_K_takesFromBudget : xm_P := [(0, .aload_n 0, 1, none), (1, .getfield 19, 3, none), (4, .iload_n 1, 1, none), (5, .iaload, 1, none), (6, .ifCond .ne 17, 3, none), (9, .aload_n 0, 1, none), (10, .getfield 31, 3, none), (13, .iload_n 1, 1, none), (14, .iaload, 1, none), (15, .iconst 3, 1, none), (16, .if_icmp .eq 7, 3, none), (19, .iconst 1, 1, none), (20, .goto 4, 3, none), (23, .iconst 0, 1, none), (24, .ireturn, 1, none)]
theorem xd_K_takesFromBudget : xm_chb xb_K_takesFromBudget xp_K_takesFromBudget = true := by decide +kernel
theorem xe_K_takesFromBudget : Cond.code xy_K_takesFromBudget xb_K_takesFromBudget 2 (some .boolean) ∈ xt_T := xt_in 409 (by decide +kernel) rfl
abbrev xb_A_yearOf : ByteArray := prog_1_method_43_code
def xy_A_yearOf : MethodName := ⟨"AbsenceRows", "yearOf", "(I)I"⟩
def xp_A_yearOf : xm_P := [(0, .iload_n 0, 1, none), (1, .sipush 365, 3, none), (4, .idiv, 1, none), (5, .ireturn, 1, none)]
theorem xd_A_yearOf : xm_chb xb_A_yearOf xp_A_yearOf = true := by decide +kernel
theorem xe_A_yearOf : Cond.code xy_A_yearOf xb_A_yearOf 1 (some .int) ∈ xt_T := xt_in 412 (by decide +kernel) rfl
abbrev xb_A_halfDaysOf : ByteArray := prog_1_method_31_code
def xy_A_halfDaysOf : MethodName := ⟨"AbsenceRows", "halfDaysOf", "(I)I"⟩
def xp_A_halfDaysOf : xm_P := [(0, .aload_n 0, 1, none), (1, .getfield 10, 3, none), (4, .aload_n 0, 1, none), (5, .getfield 33, 3, none), (8, .getfield 345, 3, none), (11, .iload_n 1, 1, none), (12, .iaload, 1, none), (13, .aload_n 0, 1, none), (14, .getfield 33, 3, none), (17, .getfield 348, 3, none), (20, .iload_n 1, 1, none), (21, .iaload, 1, none), (22, .aload_n 0, 1, none), (23, .getfield 33, 3, none), (26, .getfield 351, 3, none), (29, .iload_n 1, 1, none), (30, .iaload, 1, none), (31, .invokevirtual 342, 3, none), (34, .ireturn, 1, none)]
theorem xd_A_halfDaysOf : xm_chb xb_A_halfDaysOf xp_A_halfDaysOf = true := by decide +kernel
theorem xe_A_halfDaysOf : Cond.code xy_A_halfDaysOf xb_A_halfDaysOf 2 (some .int) ∈ xt_T := xt_in 416 (by decide +kernel) rfl
abbrev xb_C_halfDays : ByteArray := prog_3_method_4_code
def xy_C_halfDays : MethodName := ⟨"AbsenceRows$Calendar", "halfDays", "(III)I"⟩
def xp_C_halfDays : xm_P := [(0, .iconst 0, 1, none), (1, .istore 4, 2, none), (3, .iload_n 1, 1, none), (4, .istore 5, 2, none), (6, .iload 5, 2, some [0, 1, 2, 3, 4, 5]), (8, .iload_n 2, 1, none), (9, .if_icmp .gt 39, 3, none), (12, .aload_n 0, 1, none), (13, .iload 5, 2, none), (15, .invokevirtual 15, 3, none), (18, .ifCond .eq 24, 3, none), (21, .iload 4, 2, none), (23, .iload 5, 2, none), (25, .iload_n 1, 1, none), (26, .iload_n 2, 1, none), (27, .iload_n 3, 1, none), (28, .invokestatic 19, 3, none), (31, .ifCond .eq 7, 3, none), (34, .iconst 1, 1, none), (35, .goto 4, 3, none), (38, .iconst 2, 1, none), (39, .iadd, 1, none), (40, .istore 4, 2, none), (42, .iinc 5 1, 3, none), (45, .goto (-39), 3, none), (48, .iload 4, 2, none), (50, .ireturn, 1, none)]
theorem xd_C_halfDays : xm_chb xb_C_halfDays xp_C_halfDays = true := by decide +kernel
theorem xe_C_halfDays : Cond.code xy_C_halfDays xb_C_halfDays 6 (some .int) ∈ xt_T := xt_in 420 (by decide +kernel) rfl
abbrev xb_C_isWorkingDay : ByteArray := prog_3_method_2_code
def xy_C_isWorkingDay : MethodName := ⟨"AbsenceRows$Calendar", "isWorkingDay", "(I)Z"⟩
def xp_C_isWorkingDay : xm_P := [(0, .iload_n 1, 1, none), (1, .bipush 7, 2, none), (3, .irem, 1, none), (4, .iconst 5, 1, none), (5, .if_icmp .ge 16, 3, none), (8, .aload_n 0, 1, none), (9, .getfield 9, 3, none), (12, .iload_n 1, 1, none), (13, .baload, 1, none), (14, .ifCond .ne 7, 3, none), (17, .iconst 1, 1, none), (18, .goto 4, 3, none), (21, .iconst 0, 1, none), (22, .ireturn, 1, none)]
theorem xd_C_isWorkingDay : xm_chb xb_C_isWorkingDay xp_C_isWorkingDay = true := by decide +kernel
theorem xe_C_isWorkingDay : Cond.code xy_C_isWorkingDay xb_C_isWorkingDay 2 (some .boolean) ∈ xt_T := xt_in 424 (by decide +kernel) rfl
abbrev xb_A_isHalf : ByteArray := prog_1_method_45_code
def xy_A_isHalf : MethodName := ⟨"AbsenceRows", "isHalf", "(IIII)Z"⟩
def xp_A_isHalf : xm_P := [(0, .iload_n 0, 1, none), (1, .iload_n 1, 1, none), (2, .if_icmp .ne 9, 3, none), (5, .iload_n 3, 1, none), (6, .iconst 1, 1, none), (7, .iand, 1, none), (8, .ifCond .ne 14, 3, none), (11, .iload_n 0, 1, none), (12, .iload_n 2, 1, none), (13, .if_icmp .ne 13, 3, none), (16, .iload_n 3, 1, none), (17, .iconst 2, 1, none), (18, .iand, 1, none), (19, .ifCond .eq 7, 3, none), (22, .iconst 1, 1, none), (23, .goto 4, 3, none), (26, .iconst 0, 1, none), (27, .ireturn, 1, none)]
theorem xd_A_isHalf : xm_chb xb_A_isHalf xp_A_isHalf = true := by decide +kernel
theorem xe_A_isHalf : Cond.code xy_A_isHalf xb_A_isHalf 4 (some .boolean) ∈ xt_T := xt_in 427 (by decide +kernel) rfl
abbrev xb_P_daysThere : ByteArray := prog_7_method_4_code
def xy_P_daysThere : MethodName := ⟨"AbsenceRows$Persons", "daysThere", "(II)I"⟩
def xp_P_daysThere : xm_P := [(0, .iload_n 2, 1, none), (1, .iconst 1, 1, none), (2, .iadd, 1, none), (3, .sipush 365, 3, none), (6, .imul, 1, none), (7, .istore_n 3, 1, none), (8, .iconst 0, 1, none), (9, .sipush 365, 3, none), (12, .iload_n 3, 1, none), (13, .aload_n 0, 1, none), (14, .getfield 22, 3, none), (17, .iload_n 1, 1, none), (18, .iaload, 1, none), (19, .isub, 1, none), (20, .invokestatic 41, 3, none), (23, .invokestatic 47, 3, none), (26, .ireturn, 1, none)]
theorem xd_P_daysThere : xm_chb xb_P_daysThere xp_P_daysThere = true := by decide +kernel
theorem xe_P_daysThere : Cond.code xy_P_daysThere xb_P_daysThere 4 (some .int) ∈ xt_T := xt_in 431 (by decide +kernel) rfl
abbrev xb_J_min : ByteArray := prog_15_method_69_code
def xy_J_min : MethodName := ⟨"java/lang/Math", "min", "(II)I"⟩
def xp_J_min : xm_P := [(0, .iload_n 0, 1, none), (1, .iload_n 1, 1, none), (2, .if_icmp .gt 7, 3, none), (5, .iload_n 0, 1, none), (6, .goto 4, 3, none), (9, .iload_n 1, 1, none), (10, .ireturn, 1, none)]
theorem xd_J_min : xm_chb xb_J_min xp_J_min = true := by decide +kernel
theorem xe_J_min : Cond.code xy_J_min xb_J_min 2 (some .int) ∈ xt_T := xt_in 434 (by decide +kernel) rfl
abbrev xb_J_max : ByteArray := prog_15_method_65_code
def xy_J_max : MethodName := ⟨"java/lang/Math", "max", "(II)I"⟩
def xp_J_max : xm_P := [(0, .iload_n 0, 1, none), (1, .iload_n 1, 1, none), (2, .if_icmp .lt 7, 3, none), (5, .iload_n 0, 1, none), (6, .goto 4, 3, none), (9, .iload_n 1, 1, none), (10, .ireturn, 1, none)]
theorem xd_J_max : xm_chb xb_J_max xp_J_max = true := by decide +kernel
theorem xe_J_max : Cond.code xy_J_max xb_J_max 2 (some .int) ∈ xt_T := xt_in 437 (by decide +kernel) rfl
abbrev xb_A_partsOfHalfDay : ByteArray := prog_1_method_25_code
def xy_A_partsOfHalfDay : MethodName := ⟨"AbsenceRows", "partsOfHalfDay", "(I)I"⟩
def xp_A_partsOfHalfDay : xm_P := [(0, .sipush 365, 3, none), (3, .iload_n 0, 1, none), (4, .imul, 1, none), (5, .ireturn, 1, none)]
theorem xd_A_partsOfHalfDay : xm_chb xb_A_partsOfHalfDay xp_A_partsOfHalfDay = true := by decide +kernel
theorem xe_A_partsOfHalfDay : Cond.code xy_A_partsOfHalfDay xb_A_partsOfHalfDay 1 (some .int) ∈ xt_T := xt_in 440 (by decide +kernel) rfl
abbrev xb_A_partsCarried : ByteArray := prog_1_method_27_code
def xy_A_partsCarried : MethodName := ⟨"AbsenceRows", "partsCarried", "(II)I"⟩
def xp_A_partsCarried : xm_P := [(0, .iconst 0, 1, none), (1, .iload_n 2, 1, none), (2, .aload_n 0, 1, none), (3, .getfield 51, 3, none), (6, .iload_n 1, 1, none), (7, .invokestatic 247, 3, none), (10, .imul, 1, none), (11, .invokestatic 328, 3, none), (14, .invokestatic 333, 3, none), (17, .ireturn, 1, none)]
theorem xd_A_partsCarried : xm_chb xb_A_partsCarried xp_A_partsCarried = true := by decide +kernel
theorem xe_A_partsCarried : Cond.code xy_A_partsCarried xb_A_partsCarried 3 (some .int) ∈ xt_T := xt_in 444 (by decide +kernel) rfl
abbrev xb_A_partsOfDay : ByteArray := prog_1_method_24_code
def xy_A_partsOfDay : MethodName := ⟨"AbsenceRows", "partsOfDay", "(I)I"⟩
def xp_A_partsOfDay : xm_P := [(0, .sipush 730, 3, none), (3, .iload_n 0, 1, none), (4, .imul, 1, none), (5, .ireturn, 1, none)]
theorem xd_A_partsOfDay : xm_chb xb_A_partsOfDay xp_A_partsOfDay = true := by decide +kernel
theorem xe_A_partsOfDay : Cond.code xy_A_partsOfDay xb_A_partsOfDay 1 (some .int) ∈ xt_T := xt_in 447 (by decide +kernel) rfl
abbrev xb_A_carry : ByteArray := prog_1_method_4_code
def xy_A_carry : MethodName := ⟨"AbsenceRows", "carry", "(I)V"⟩
def xp_A_carry : xm_P := [(0, .iload_n 1, 1, none), (1, .iconst 0, 1, none), (2, .bipush 100, 2, none), (4, .invokestatic 61, 3, none), (7, .ifCond .ne 13, 3, none), (10, .new 69, 3, none), (13, .dup, 1, none), (14, .ldc 114, 2, none), (16, .invokespecial 73, 3, none), (19, .athrow, 1, none), (20, .iload_n 1, 1, none), (21, .aload_n 0, 1, none), (22, .getfield 51, 3, none), (25, .if_icmp .ge 13, 3, none), (28, .new 102, 3, none), (31, .dup, 1, none), (32, .ldc 116, 2, none), (34, .invokespecial 106, 3, none), (37, .athrow, 1, none), (38, .aload_n 0, 1, none), (39, .iload_n 1, 1, none), (40, .putfield 51, 3, none), (43, .return_, 1, none)]
theorem xd_A_carry : xm_chb xb_A_carry xp_A_carry = true := by decide +kernel
theorem xe_A_carry : Cond.code xy_A_carry xb_A_carry 2 none ∈ xt_T := xt_in 472 (by decide +kernel) rfl
abbrev xb_A_holiday : ByteArray := prog_1_method_5_code
def xy_A_holiday : MethodName := ⟨"AbsenceRows", "holiday", "(I)V"⟩
def xp_A_holiday : xm_P := [(0, .iload_n 1, 1, none), (1, .invokestatic 65, 3, none), (4, .ifCond .ne 13, 3, none), (7, .new 69, 3, none), (10, .dup, 1, none), (11, .ldc 118, 2, none), (13, .invokespecial 73, 3, none), (16, .athrow, 1, none), (17, .aload_n 0, 1, none), (18, .getfield 10, 3, none), (21, .getfield 120, 3, none), (24, .iload_n 1, 1, none), (25, .baload, 1, none), (26, .ifCond .eq 13, 3, none), (29, .new 102, 3, none), (32, .dup, 1, none), (33, .ldc 124, 2, none), (35, .invokespecial 106, 3, none), (38, .athrow, 1, none), (39, .aload_n 0, 1, none), (40, .getfield 10, 3, none), (43, .getfield 120, 3, none), (46, .iload_n 1, 1, none), (47, .iconst 1, 1, none), (48, .bastore, 1, none), (49, .return_, 1, none)]
theorem xd_A_holiday : xm_chb xb_A_holiday xp_A_holiday = true := by decide +kernel
theorem xe_A_holiday : Cond.code xy_A_holiday xb_A_holiday 2 none ∈ xt_T := xt_in 481 (by decide +kernel) rfl
abbrev xb_A_working : ByteArray := prog_1_method_6_code
def xy_A_working : MethodName := ⟨"AbsenceRows", "working", "(II)I"⟩
def xp_A_working : xm_P := [(0, .iload_n 1, 1, none), (1, .iload_n 2, 1, none), (2, .invokestatic 126, 3, none), (5, .ifCond .ne 13, 3, none), (8, .new 69, 3, none), (11, .dup, 1, none), (12, .ldc 130, 2, none), (14, .invokespecial 73, 3, none), (17, .athrow, 1, none), (18, .aload_n 0, 1, none), (19, .getfield 10, 3, none), (22, .iload_n 1, 1, none), (23, .iload_n 2, 1, none), (24, .invokevirtual 132, 3, none), (27, .ireturn, 1, none)]
theorem xd_A_working : xm_chb xb_A_working xp_A_working = true := by decide +kernel
theorem xe_A_working : Cond.code xy_A_working xb_A_working 3 (some .int) ∈ xt_T := xt_in 490 (by decide +kernel) rfl
abbrev xb_A_isSpan : ByteArray := prog_1_method_42_code
def xy_A_isSpan : MethodName := ⟨"AbsenceRows", "isSpan", "(II)Z"⟩
def xp_A_isSpan : xm_P := [(0, .iload_n 0, 1, none), (1, .invokestatic 65, 3, none), (4, .ifCond .eq 19, 3, none), (7, .iload_n 1, 1, none), (8, .invokestatic 65, 3, none), (11, .ifCond .eq 12, 3, none), (14, .iload_n 0, 1, none), (15, .iload_n 1, 1, none), (16, .if_icmp .gt 7, 3, none), (19, .iconst 1, 1, none), (20, .goto 4, 3, none), (23, .iconst 0, 1, none), (24, .ireturn, 1, none)]
theorem xd_A_isSpan : xm_chb xb_A_isSpan xp_A_isSpan = true := by decide +kernel
theorem xe_A_isSpan : Cond.code xy_A_isSpan xb_A_isSpan 2 (some .boolean) ∈ xt_T := xt_in 493 (by decide +kernel) rfl
abbrev xb_C_workingDays : ByteArray := prog_3_method_3_code
def xy_C_workingDays : MethodName := ⟨"AbsenceRows$Calendar", "workingDays", "(II)I"⟩
def xp_C_workingDays : xm_P := [(0, .iconst 0, 1, none), (1, .istore_n 3, 1, none), (2, .iload_n 1, 1, none), (3, .istore 4, 2, none), (5, .iload 4, 2, some [0, 1, 2, 3, 4]), (7, .iload_n 2, 1, none), (8, .if_icmp .gt 21, 3, none), (11, .aload_n 0, 1, none), (12, .iload 4, 2, none), (14, .invokevirtual 15, 3, none), (17, .ifCond .eq 6, 3, none), (20, .iinc 3 1, 3, none), (23, .iinc 4 1, 3, none), (26, .goto (-21), 3, none), (29, .iload_n 3, 1, none), (30, .ireturn, 1, none)]
theorem xd_C_workingDays : xm_chb xb_C_workingDays xp_C_workingDays = true := by decide +kernel
theorem xe_C_workingDays : Cond.code xy_C_workingDays xb_C_workingDays 5 (some .int) ∈ xt_T := xt_in 498 (by decide +kernel) rfl
abbrev xb_A_crew : ByteArray := prog_1_method_7_code
def xy_A_crew : MethodName := ⟨"AbsenceRows", "crew", "(II)I"⟩
def xp_A_crew : xm_P := [(0, .iload_n 1, 1, none), (1, .iconst 0, 1, none), (2, .sipush 255, 3, none), (5, .invokestatic 61, 3, none), (8, .ifCond .eq 13, 3, none), (11, .iload_n 2, 1, none), (12, .iconst 0, 1, none), (13, .bipush 20, 2, none), (15, .invokestatic 61, 3, none), (18, .ifCond .ne 13, 3, none), (21, .new 69, 3, none), (24, .dup, 1, none), (25, .ldc 136, 2, none), (27, .invokespecial 73, 3, none), (30, .athrow, 1, none), (31, .aload_n 0, 1, none), (32, .getfield 26, 3, none), (35, .getfield 138, 3, none), (38, .bipush 6, 2, none), (40, .if_icmp .lt 13, 3, none), (43, .new 79, 3, none), (46, .dup, 1, none), (47, .ldc 139, 2, none), (49, .invokespecial 83, 3, none), (52, .athrow, 1, none), (53, .aload_n 0, 1, none), (54, .getfield 26, 3, none), (57, .iload_n 1, 1, none), (58, .iload_n 2, 1, none), (59, .invokevirtual 141, 3, none), (62, .ireturn, 1, none)]
theorem xd_A_crew : xm_chb xb_A_crew xp_A_crew = true := by decide +kernel
theorem xe_A_crew : Cond.code xy_A_crew xb_A_crew 3 (some .int) ∈ xt_T := xt_in 505 (by decide +kernel) rfl
abbrev xb_W_add : ByteArray := prog_5_method_3_code
def xy_W_add : MethodName := ⟨"AbsenceRows$Crews", "add", "(II)I"⟩
def xp_W_add : xm_P := [(0, .aload_n 0, 1, none), (1, .getfield 15, 3, none), (4, .aload_n 0, 1, none), (5, .getfield 9, 3, none), (8, .iload_n 1, 1, none), (9, .iastore, 1, none), (10, .aload_n 0, 1, none), (11, .getfield 19, 3, none), (14, .aload_n 0, 1, none), (15, .getfield 9, 3, none), (18, .iload_n 2, 1, none), (19, .iastore, 1, none), (20, .aload_n 0, 1, none), (21, .dup, 1, none), (22, .getfield 9, 3, none), (25, .iconst 1, 1, none), (26, .iadd, 1, none), (27, .putfield 9, 3, none), (30, .aload_n 0, 1, none), (31, .getfield 9, 3, none), (34, .iconst 1, 1, none), (35, .isub, 1, none), (36, .ireturn, 1, none)]
theorem xd_W_add : xm_chb xb_W_add xp_W_add = true := by decide +kernel
theorem xe_W_add : Cond.code xy_W_add xb_W_add 3 (some .int) ∈ xt_T := xt_in 511 (by decide +kernel) rfl
abbrev xb_A_member : ByteArray := prog_1_method_8_code
def xy_A_member : MethodName := ⟨"AbsenceRows", "member", "(IIZ)I"⟩
def xp_A_member : xm_P := [(0, .aload_n 0, 1, none), (1, .getfield 26, 3, none), (4, .iload_n 1, 1, none), (5, .invokevirtual 143, 3, none), (8, .ifCond .eq 14, 3, none), (11, .aload_n 0, 1, none), (12, .getfield 19, 3, none), (15, .iload_n 2, 1, none), (16, .invokevirtual 88, 3, none), (19, .ifCond .ne 13, 3, none), (22, .new 91, 3, none), (25, .dup, 1, none), (26, .ldc 144, 2, none), (28, .invokespecial 95, 3, none), (31, .athrow, 1, none), (32, .aload_n 0, 1, none), (33, .getfield 26, 3, none), (36, .getfield 146, 3, none), (39, .iload_n 1, 1, none), (40, .iaload, 1, none), (41, .iload_n 2, 1, none), (42, .invokestatic 149, 3, none), (45, .iload_n 3, 1, none), (46, .if_icmp .ne 13, 3, none), (49, .new 102, 3, none), (52, .dup, 1, none), (53, .ldc 152, 2, none), (55, .invokespecial 106, 3, none), (58, .athrow, 1, none), (59, .aload_n 0, 1, none), (60, .getfield 26, 3, none), (63, .getfield 146, 3, none), (66, .iload_n 1, 1, none), (67, .dup2, 1, none), (68, .iaload, 1, none), (69, .iload_n 2, 1, none), (70, .invokestatic 154, 3, none), (73, .ixor, 1, none), (74, .iastore, 1, none), (75, .aload_n 0, 1, none), (76, .getfield 26, 3, none), (79, .getfield 146, 3, none), (82, .iload_n 1, 1, none), (83, .iaload, 1, none), (84, .invokestatic 158, 3, none), (87, .ireturn, 1, none)]
theorem xd_A_member : xm_chb xb_A_member xp_A_member = true := by decide +kernel
theorem xe_A_member : Cond.code xy_A_member xb_A_member 4 (some .int) ∈ xt_T := xt_in 518 (by decide +kernel) rfl
abbrev xb_W_has : ByteArray := prog_5_method_2_code
def xy_W_has : MethodName := ⟨"AbsenceRows$Crews", "has", "(I)Z"⟩
def xp_W_has : xm_P := [(0, .iload_n 1, 1, none), (1, .iconst 0, 1, none), (2, .aload_n 0, 1, none), (3, .getfield 9, 3, none), (6, .iconst 1, 1, none), (7, .isub, 1, none), (8, .invokestatic 25, 3, none), (11, .ireturn, 1, none)]
theorem xd_W_has : xm_chb xb_W_has xp_W_has = true := by decide +kernel
theorem xe_W_has : Cond.code xy_W_has xb_W_has 2 (some .boolean) ∈ xt_T := xt_in 522 (by decide +kernel) rfl
abbrev xb_A_holds : ByteArray := prog_1_method_47_code
def xy_A_holds : MethodName := ⟨"AbsenceRows", "holds", "(II)Z"⟩
def xp_A_holds : xm_P := [(0, .iload_n 0, 1, none), (1, .iload_n 1, 1, none), (2, .invokestatic 154, 3, none), (5, .iand, 1, none), (6, .ifCond .eq 7, 3, none), (9, .iconst 1, 1, none), (10, .goto 4, 3, none), (13, .iconst 0, 1, none), (14, .ireturn, 1, none)]
theorem xd_A_holds : xm_chb xb_A_holds xp_A_holds = true := by decide +kernel
theorem xe_A_holds : Cond.code xy_A_holds xb_A_holds 2 (some .boolean) ∈ xt_T := xt_in 527 (by decide +kernel) rfl
abbrev xb_A_only : ByteArray := prog_1_method_46_code
def xy_A_only : MethodName := ⟨"AbsenceRows", "only", "(I)I"⟩
def xp_A_only : xm_P := [(0, .iconst 1, 1, none), (1, .iload_n 0, 1, none), (2, .ishl, 1, none), (3, .ireturn, 1, none)]
theorem xd_A_only : xm_chb xb_A_only xp_A_only = true := by decide +kernel
theorem xe_A_only : Cond.code xy_A_only xb_A_only 1 (some .int) ∈ xt_T := xt_in 530 (by decide +kernel) rfl
abbrev xb_I_bitCount : ByteArray := prog_14_method_49_code
def xy_I_bitCount : MethodName := ⟨"java/lang/Integer", "bitCount", "(I)I"⟩
def xp_I_bitCount : xm_P := [(0, .iload_n 0, 1, none), (1, .iload_n 0, 1, none), (2, .iconst 1, 1, none), (3, .iushr, 1, none), (4, .ldc_w 265, 3, none), (7, .iand, 1, none), (8, .isub, 1, none), (9, .istore_n 0, 1, none), (10, .iload_n 0, 1, none), (11, .ldc_w 266, 3, none), (14, .iand, 1, none), (15, .iload_n 0, 1, none), (16, .iconst 2, 1, none), (17, .iushr, 1, none), (18, .ldc_w 266, 3, none), (21, .iand, 1, none), (22, .iadd, 1, none), (23, .istore_n 0, 1, none), (24, .iload_n 0, 1, none), (25, .iload_n 0, 1, none), (26, .iconst 4, 1, none), (27, .iushr, 1, none), (28, .iadd, 1, none), (29, .ldc_w 267, 3, none), (32, .iand, 1, none), (33, .istore_n 0, 1, none), (34, .iload_n 0, 1, none), (35, .iload_n 0, 1, none), (36, .bipush 8, 2, none), (38, .iushr, 1, none), (39, .iadd, 1, none), (40, .istore_n 0, 1, none), (41, .iload_n 0, 1, none), (42, .iload_n 0, 1, none), (43, .bipush 16, 2, none), (45, .iushr, 1, none), (46, .iadd, 1, none), (47, .istore_n 0, 1, none), (48, .iload_n 0, 1, none), (49, .bipush 63, 2, none), (51, .iand, 1, none), (52, .ireturn, 1, none)]
theorem xd_I_bitCount : xm_chb xb_I_bitCount xp_I_bitCount = true := by decide +kernel
theorem xe_I_bitCount : Cond.code xy_I_bitCount xb_I_bitCount 1 (some .int) ∈ xt_T := xt_in 534 (by decide +kernel) rfl
abbrev xb_A_ask : ByteArray := prog_1_method_9_code
def xy_A_ask : MethodName := ⟨"AbsenceRows", "ask", "(IIIII)I"⟩
def xp_A_ask : xm_P := [(0, .aload_n 0, 1, none), (1, .getfield 19, 3, none), (4, .iload_n 1, 1, none), (5, .invokevirtual 88, 3, none), (8, .ifCond .eq 12, 3, none), (11, .iload_n 2, 1, none), (12, .iconst 0, 1, none), (13, .iconst 2, 1, none), (14, .invokestatic 61, 3, none), (17, .ifCond .ne 13, 3, none), (20, .new 91, 3, none), (23, .dup, 1, none), (24, .ldc 163, 2, none), (26, .invokespecial 95, 3, none), (29, .athrow, 1, none), (30, .iload_n 3, 1, none), (31, .iload 4, 2, none), (33, .invokestatic 126, 3, none), (36, .ifCond .eq 26, 3, none), (39, .iload_n 3, 1, none), (40, .invokestatic 165, 3, none), (43, .iload 4, 2, none), (45, .invokestatic 165, 3, none), (48, .if_icmp .ne 14, 3, none), (51, .iload 5, 2, none), (53, .iload_n 3, 1, none), (54, .iload 4, 2, none), (56, .invokestatic 168, 3, none), (59, .ifCond .ne 13, 3, none), (62, .new 69, 3, none), (65, .dup, 1, none), (66, .ldc 171, 2, none), (68, .invokespecial 73, 3, none), (71, .athrow, 1, none), (72, .aload_n 0, 1, none), (73, .getfield 33, 3, none), (76, .iload_n 1, 1, none), (77, .iload_n 3, 1, none), (78, .iload 4, 2, none), (80, .invokevirtual 173, 3, none), (83, .ifCond .eq 13, 3, none), (86, .new 102, 3, none), (89, .dup, 1, none), (90, .ldc 176, 2, none), (92, .invokespecial 106, 3, none), (95, .athrow, 1, none), (96, .iload_n 2, 1, none), (97, .ifCond .ne 26, 3, none), (100, .aload_n 0, 1, none), (101, .iload_n 1, 1, none), (102, .iload_n 3, 1, none), (103, .iload 4, 2, none), (105, .iload 5, 2, none), (107, .invokevirtual 178, 3, none), (110, .ifCond .ne 13, 3, none), (113, .new 102, 3, none), (116, .dup, 1, none), (117, .ldc 182, 2, none), (119, .invokespecial 106, 3, none), (122, .athrow, 1, none), (123, .aload_n 0, 1, none), (124, .getfield 33, 3, none), (127, .getfield 184, 3, none), (130, .bipush 80, 2, none), (132, .if_icmp .lt 13, 3, none), (135, .new 79, 3, none), (138, .dup, 1, none), (139, .ldc 185, 2, none), (141, .invokespecial 83, 3, none), (144, .athrow, 1, none), (145, .aload_n 0, 1, none), (146, .getfield 33, 3, none), (149, .iload_n 1, 1, none), (150, .iload_n 2, 1, none), (151, .iload_n 3, 1, none), (152, .iload 4, 2, none), (154, .iload 5, 2, none), (156, .invokevirtual 187, 3, none), (159, .ireturn, 1, none)]
theorem xd_A_ask : xm_chb xb_A_ask xp_A_ask = true := by decide +kernel
theorem xe_A_ask : Cond.code xy_A_ask xb_A_ask 6 (some .int) ∈ xt_T := xt_in 544 (by decide +kernel) rfl
abbrev xb_A_areHalves : ByteArray := prog_1_method_44_code
def xy_A_areHalves : MethodName := ⟨"AbsenceRows", "areHalves", "(III)Z"⟩
def xp_A_areHalves : xm_P := [(0, .iload_n 0, 1, none), (1, .iconst 0, 1, none), (2, .iconst 3, 1, none), (3, .invokestatic 61, 3, none), (6, .ifCond .eq 17, 3, none), (9, .iload_n 0, 1, none), (10, .iconst 3, 1, none), (11, .if_icmp .ne 8, 3, none), (14, .iload_n 1, 1, none), (15, .iload_n 2, 1, none), (16, .if_icmp .eq 7, 3, none), (19, .iconst 1, 1, none), (20, .goto 4, 3, none), (23, .iconst 0, 1, none), (24, .ireturn, 1, none)]
theorem xd_A_areHalves : xm_chb xb_A_areHalves xp_A_areHalves = true := by decide +kernel
theorem xe_A_areHalves : Cond.code xy_A_areHalves xb_A_areHalves 3 (some .boolean) ∈ xt_T := xt_in 548 (by decide +kernel) rfl
abbrev xb_K_overlap : ByteArray := prog_2_method_4_code
def xy_K_overlap : MethodName := ⟨"AbsenceRows$Asks", "overlap", "(III)Z"⟩
def xp_K_overlap : xm_P := [(0, .iconst 0, 1, none), (1, .istore 4, 2, none), (3, .iload 4, 2, some [0, 1, 2, 3, 4]), (5, .aload_n 0, 1, none), (6, .getfield 9, 3, none), (9, .if_icmp .ge 55, 3, none), (12, .aload_n 0, 1, none), (13, .getfield 15, 3, none), (16, .iload 4, 2, none), (18, .iaload, 1, none), (19, .iload_n 1, 1, none), (20, .if_icmp .ne 38, 3, none), (23, .aload_n 0, 1, none), (24, .getfield 31, 3, none), (27, .iload 4, 2, none), (29, .iaload, 1, none), (30, .iconst 3, 1, none), (31, .if_icmp .eq 27, 3, none), (34, .aload_n 0, 1, none), (35, .getfield 22, 3, none), (38, .iload 4, 2, none), (40, .iaload, 1, none), (41, .iload_n 3, 1, none), (42, .if_icmp .gt 16, 3, none), (45, .iload_n 2, 1, none), (46, .aload_n 0, 1, none), (47, .getfield 25, 3, none), (50, .iload 4, 2, none), (52, .iaload, 1, none), (53, .if_icmp .gt 5, 3, none), (56, .iconst 1, 1, none), (57, .ireturn, 1, none), (58, .iinc 4 1, 3, none), (61, .goto (-58), 3, none), (64, .iconst 0, 1, none), (65, .ireturn, 1, none)]
theorem xd_K_overlap : xm_chb xb_K_overlap xp_K_overlap = true := by decide +kernel
theorem xe_K_overlap : Cond.code xy_K_overlap xb_K_overlap 5 (some .boolean) ∈ xt_T := xt_in 553 (by decide +kernel) rfl
abbrev xb_A_isEnoughFor : ByteArray := prog_1_method_30_code
def xy_A_isEnoughFor : MethodName := ⟨"AbsenceRows", "isEnoughFor", "(IIII)Z"⟩
def xp_A_isEnoughFor : xm_P := [(0, .aload_n 0, 1, none), (1, .getfield 10, 3, none), (4, .iload_n 2, 1, none), (5, .iload_n 3, 1, none), (6, .iload 4, 2, none), (8, .invokevirtual 342, 3, none), (11, .istore 5, 2, none), (13, .iload_n 2, 1, none), (14, .invokestatic 165, 3, none), (17, .ifCond .ne 8, 3, none), (20, .iload 5, 2, none), (22, .goto 4, 3, none), (25, .iconst 0, 1, none), (26, .istore 6, 2, none), (28, .aload_n 0, 1, none), (29, .aload_n 0, 1, none), (30, .getfield 19, 3, none), (33, .getfield 107, 3, none), (36, .iload_n 1, 1, none), (37, .iaload, 1, none), (38, .aload_n 0, 1, none), (39, .getfield 19, 3, none), (42, .getfield 111, 3, none), (45, .iload_n 1, 1, none), (46, .iaload, 1, none), (47, .iload_n 1, 1, none), (48, .iload 6, 2, none), (50, .iload 5, 2, none), (52, .iload 6, 2, none), (54, .isub, 1, none), (55, .invokevirtual 98, 3, none), (58, .ireturn, 1, none)]
theorem xd_A_isEnoughFor : xm_chb xb_A_isEnoughFor xp_A_isEnoughFor = true := by decide +kernel
theorem xe_A_isEnoughFor : Cond.code xy_A_isEnoughFor xb_A_isEnoughFor 7 (some .boolean) ∈ xt_T := xt_in 558 (by decide +kernel) rfl
abbrev xb_K_add : ByteArray := prog_2_method_3_code
def xy_K_add : MethodName := ⟨"AbsenceRows$Asks", "add", "(IIIII)I"⟩
def xp_K_add : xm_P := [(0, .aload_n 0, 1, none), (1, .getfield 15, 3, none), (4, .aload_n 0, 1, none), (5, .getfield 9, 3, none), (8, .iload_n 1, 1, none), (9, .iastore, 1, none), (10, .aload_n 0, 1, none), (11, .getfield 19, 3, none), (14, .aload_n 0, 1, none), (15, .getfield 9, 3, none), (18, .iload_n 2, 1, none), (19, .iastore, 1, none), (20, .aload_n 0, 1, none), (21, .getfield 22, 3, none), (24, .aload_n 0, 1, none), (25, .getfield 9, 3, none), (28, .iload_n 3, 1, none), (29, .iastore, 1, none), (30, .aload_n 0, 1, none), (31, .getfield 25, 3, none), (34, .aload_n 0, 1, none), (35, .getfield 9, 3, none), (38, .iload 4, 2, none), (40, .iastore, 1, none), (41, .aload_n 0, 1, none), (42, .getfield 28, 3, none), (45, .aload_n 0, 1, none), (46, .getfield 9, 3, none), (49, .iload 5, 2, none), (51, .iastore, 1, none), (52, .aload_n 0, 1, none), (53, .getfield 31, 3, none), (56, .aload_n 0, 1, none), (57, .getfield 9, 3, none), (60, .iload_n 2, 1, none), (61, .iconst 1, 1, none), (62, .if_icmp .ne 7, 3, none), (65, .iconst 2, 1, none), (66, .goto 4, 3, none), (69, .iconst 0, 1, none), (70, .iastore, 1, none), (71, .aload_n 0, 1, none), (72, .getfield 34, 3, none), (75, .aload_n 0, 1, none), (76, .getfield 9, 3, none), (79, .iconst (-1), 1, none), (80, .iastore, 1, none), (81, .aload_n 0, 1, none), (82, .dup, 1, none), (83, .getfield 9, 3, none), (86, .iconst 1, 1, none), (87, .iadd, 1, none), (88, .putfield 9, 3, none), (91, .aload_n 0, 1, none), (92, .getfield 9, 3, none), (95, .iconst 1, 1, none), (96, .isub, 1, none), (97, .ireturn, 1, none)]
theorem xd_K_add : xm_chb xb_K_add xp_K_add = true := by decide +kernel
theorem xe_K_add : Cond.code xy_K_add xb_K_add 6 (some .int) ∈ xt_T := xt_in 564 (by decide +kernel) rfl
abbrev xb_A_grant : ByteArray := prog_1_method_10_code
def xy_A_grant : MethodName := ⟨"AbsenceRows", "grant", "(II)I"⟩
def xp_A_grant : xm_P := [(0, .aload_n 0, 1, none), (1, .getfield 33, 3, none), (4, .iload_n 1, 1, none), (5, .invokevirtual 190, 3, none), (8, .ifCond .eq 14, 3, none), (11, .aload_n 0, 1, none), (12, .getfield 19, 3, none), (15, .iload_n 2, 1, none), (16, .invokevirtual 88, 3, none), (19, .ifCond .ne 13, 3, none), (22, .new 91, 3, none), (25, .dup, 1, none), (26, .ldc 191, 2, none), (28, .invokespecial 95, 3, none), (31, .athrow, 1, none), (32, .aload_n 0, 1, none), (33, .getfield 33, 3, none), (36, .iload_n 1, 1, none), (37, .invokevirtual 193, 3, none), (40, .ifCond .eq 33, 3, none), (43, .aload_n 0, 1, none), (44, .getfield 33, 3, none), (47, .getfield 196, 3, none), (50, .iload_n 1, 1, none), (51, .iaload, 1, none), (52, .iload_n 2, 1, none), (53, .if_icmp .eq 20, 3, none), (56, .aload_n 0, 1, none), (57, .iload_n 2, 1, none), (58, .aload_n 0, 1, none), (59, .getfield 33, 3, none), (62, .getfield 199, 3, none), (65, .iload_n 1, 1, none), (66, .iaload, 1, none), (67, .invokevirtual 202, 3, none), (70, .ifCond .ne 13, 3, none), (73, .new 102, 3, none), (76, .dup, 1, none), (77, .ldc 205, 2, none), (79, .invokespecial 106, 3, none), (82, .athrow, 1, none), (83, .aload_n 0, 1, none), (84, .getfield 33, 3, none), (87, .iload_n 1, 1, none), (88, .invokevirtual 207, 3, none), (91, .ifCond .ne 14, 3, none), (94, .aload_n 0, 1, none), (95, .getfield 33, 3, none), (98, .iload_n 1, 1, none), (99, .iload_n 2, 1, none), (100, .invokevirtual 210, 3, none), (103, .iconst 1, 1, none), (104, .ireturn, 1, none), (105, .aload_n 0, 1, none), (106, .iload_n 1, 1, none), (107, .invokevirtual 214, 3, none), (110, .istore_n 3, 1, none), (111, .iload_n 3, 1, none), (112, .iconst (-1), 1, none), (113, .if_icmp .eq 28, 3, none), (116, .aload_n 0, 1, none), (117, .getfield 40, 3, none), (120, .iload_n 1, 1, none), (121, .iload_n 3, 1, none), (122, .aload_n 0, 1, none), (123, .aload_n 0, 1, none), (124, .getfield 33, 3, none), (127, .getfield 199, 3, none), (130, .iload_n 1, 1, none), (131, .iaload, 1, none), (132, .iload_n 3, 1, none), (133, .invokevirtual 217, 3, none), (136, .invokevirtual 220, 3, none), (139, .iconst 0, 1, none), (140, .ireturn, 1, none), (141, .aload_n 0, 1, none), (142, .getfield 33, 3, none), (145, .iload_n 1, 1, none), (146, .iload_n 2, 1, none), (147, .invokevirtual 224, 3, none), (150, .iconst 2, 1, none), (151, .ireturn, 1, none)]
theorem xd_A_grant : xm_chb xb_A_grant xp_A_grant = true := by decide +kernel
theorem xe_A_grant : Cond.code xy_A_grant xb_A_grant 4 (some .int) ∈ xt_T := xt_in 571 (by decide +kernel) rfl
abbrev xb_K_has : ByteArray := prog_2_method_2_code
def xy_K_has : MethodName := ⟨"AbsenceRows$Asks", "has", "(I)Z"⟩
def xp_K_has : xm_P := [(0, .iload_n 1, 1, none), (1, .iconst 0, 1, none), (2, .aload_n 0, 1, none), (3, .getfield 9, 3, none), (6, .iconst 1, 1, none), (7, .isub, 1, none), (8, .invokestatic 37, 3, none), (11, .ireturn, 1, none)]
theorem xd_K_has : xm_chb xb_K_has xp_K_has = true := by decide +kernel
theorem xe_K_has : Cond.code xy_K_has xb_K_has 2 (some .boolean) ∈ xt_T := xt_in 575 (by decide +kernel) rfl
abbrev xb_K_isOpen : ByteArray := prog_2_method_5_code
def xy_K_isOpen : MethodName := ⟨"AbsenceRows$Asks", "isOpen", "(I)Z"⟩
def xp_K_isOpen : xm_P := [(0, .aload_n 0, 1, none), (1, .getfield 31, 3, none), (4, .iload_n 1, 1, none), (5, .iaload, 1, none), (6, .ifCond .eq 13, 3, none), (9, .aload_n 0, 1, none), (10, .getfield 31, 3, none), (13, .iload_n 1, 1, none), (14, .iaload, 1, none), (15, .iconst 1, 1, none), (16, .if_icmp .ne 7, 3, none), (19, .iconst 1, 1, none), (20, .goto 4, 3, none), (23, .iconst 0, 1, none), (24, .ireturn, 1, none)]
theorem xd_K_isOpen : xm_chb xb_K_isOpen xp_K_isOpen = true := by decide +kernel
theorem xe_K_isOpen : Cond.code xy_K_isOpen xb_K_isOpen 2 (some .boolean) ∈ xt_T := xt_in 581 (by decide +kernel) rfl
abbrev xb_A_isAbove : ByteArray := prog_1_method_33_code
def xy_A_isAbove : MethodName := ⟨"AbsenceRows", "isAbove", "(II)Z"⟩
def xp_A_isAbove : xm_P := [(0, .aload_n 0, 1, none), (1, .getfield 19, 3, none), (4, .getfield 357, 3, none), (7, .iload_n 1, 1, none), (8, .iaload, 1, none), (9, .aload_n 0, 1, none), (10, .getfield 19, 3, none), (13, .getfield 357, 3, none), (16, .iload_n 2, 1, none), (17, .iaload, 1, none), (18, .if_icmp .le 7, 3, none), (21, .iconst 1, 1, none), (22, .goto 4, 3, none), (25, .iconst 0, 1, none), (26, .ireturn, 1, none)]
theorem xd_A_isAbove : xm_chb xb_A_isAbove xp_A_isAbove = true := by decide +kernel
theorem xe_A_isAbove : Cond.code xy_A_isAbove xb_A_isAbove 3 (some .boolean) ∈ xt_T := xt_in 585 (by decide +kernel) rfl
abbrev xb_K_isBeforeLastStep : ByteArray := prog_2_method_6_code
def xy_K_isBeforeLastStep : MethodName := ⟨"AbsenceRows$Asks", "isBeforeLastStep", "(I)Z"⟩
def xp_K_isBeforeLastStep : xm_P := [(0, .aload_n 0, 1, none), (1, .getfield 19, 3, none), (4, .iload_n 1, 1, none), (5, .iaload, 1, none), (6, .iconst 2, 1, none), (7, .if_icmp .eq 13, 3, none), (10, .aload_n 0, 1, none), (11, .getfield 31, 3, none), (14, .iload_n 1, 1, none), (15, .iaload, 1, none), (16, .iconst 1, 1, none), (17, .if_icmp .ne 7, 3, none), (20, .iconst 1, 1, none), (21, .goto 4, 3, none), (24, .iconst 0, 1, none), (25, .ireturn, 1, none)]
theorem xd_K_isBeforeLastStep : xm_chb xb_K_isBeforeLastStep xp_K_isBeforeLastStep = true := by decide +kernel
theorem xe_K_isBeforeLastStep : Cond.code xy_K_isBeforeLastStep xb_K_isBeforeLastStep 2 (some .boolean) ∈ xt_T := xt_in 590 (by decide +kernel) rfl
abbrev xb_K_makeFirstStep : ByteArray := prog_2_method_7_code
def xy_K_makeFirstStep : MethodName := ⟨"AbsenceRows$Asks", "makeFirstStep", "(II)V"⟩
def xp_K_makeFirstStep : xm_P := [(0, .aload_n 0, 1, none), (1, .getfield 34, 3, none), (4, .iload_n 1, 1, none), (5, .iload_n 2, 1, none), (6, .iastore, 1, none), (7, .aload_n 0, 1, none), (8, .getfield 31, 3, none), (11, .iload_n 1, 1, none), (12, .iconst 1, 1, none), (13, .iastore, 1, none), (14, .return_, 1, none)]
theorem xd_K_makeFirstStep : xm_chb xb_K_makeFirstStep xp_K_makeFirstStep = true := by decide +kernel
theorem xe_K_makeFirstStep : Cond.code xy_K_makeFirstStep xb_K_makeFirstStep 3 none ∈ xt_T := xt_in 594 (by decide +kernel) rfl
abbrev xb_A_firstDayLeftShort : ByteArray := prog_1_method_35_code
def xy_A_firstDayLeftShort : MethodName := ⟨"AbsenceRows", "firstDayLeftShort", "(I)I"⟩
def xp_A_firstDayLeftShort : xm_P := [(0, .aload_n 0, 1, none), (1, .getfield 33, 3, none), (4, .getfield 345, 3, none), (7, .iload_n 1, 1, none), (8, .iaload, 1, none), (9, .istore_n 2, 1, none), (10, .iload_n 2, 1, some [0, 1, 2]), (11, .aload_n 0, 1, none), (12, .getfield 33, 3, none), (15, .getfield 348, 3, none), (18, .iload_n 1, 1, none), (19, .iaload, 1, none), (20, .if_icmp .gt 84, 3, none), (23, .aload_n 0, 1, none), (24, .getfield 10, 3, none), (27, .iload_n 2, 1, none), (28, .invokevirtual 363, 3, none), (31, .ifCond .eq 41, 3, none), (34, .iload_n 2, 1, none), (35, .aload_n 0, 1, none), (36, .getfield 33, 3, none), (39, .getfield 345, 3, none), (42, .iload_n 1, 1, none), (43, .iaload, 1, none), (44, .aload_n 0, 1, none), (45, .getfield 33, 3, none), (48, .getfield 348, 3, none), (51, .iload_n 1, 1, none), (52, .iaload, 1, none), (53, .aload_n 0, 1, none), (54, .getfield 33, 3, none), (57, .getfield 351, 3, none), (60, .iload_n 1, 1, none), (61, .iaload, 1, none), (62, .invokestatic 366, 3, none), (65, .ifCond .ne 7, 3, none), (68, .iconst 1, 1, none), (69, .goto 4, 3, none), (72, .iconst 0, 1, none), (73, .istore_n 3, 1, none), (74, .iload_n 3, 1, none), (75, .ifCond .eq 23, 3, none), (78, .aload_n 0, 1, none), (79, .aload_n 0, 1, none), (80, .getfield 33, 3, none), (83, .getfield 199, 3, none), (86, .iload_n 1, 1, none), (87, .iaload, 1, none), (88, .iload_n 2, 1, none), (89, .invokevirtual 217, 3, none), (92, .iconst (-1), 1, none), (93, .if_icmp .eq 5, 3, none), (96, .iload_n 2, 1, none), (97, .ireturn, 1, none), (98, .iinc 2 1, 3, none), (101, .goto (-91), 3, none), (104, .iconst (-1), 1, none), (105, .ireturn, 1, none)]
theorem xd_A_firstDayLeftShort : xm_chb xb_A_firstDayLeftShort xp_A_firstDayLeftShort = true := by decide +kernel
theorem xe_A_firstDayLeftShort : Cond.code xy_A_firstDayLeftShort xb_A_firstDayLeftShort 4 (some .int) ∈ xt_T := xt_in 598 (by decide +kernel) rfl
abbrev xb_A_crewLeftShort : ByteArray := prog_1_method_36_code
def xy_A_crewLeftShort : MethodName := ⟨"AbsenceRows", "crewLeftShort", "(II)I"⟩
def xp_A_crewLeftShort : xm_P := [(0, .aload_n 0, 1, none), (1, .iload_n 2, 1, none), (2, .invokevirtual 258, 3, none), (5, .istore_n 3, 1, none), (6, .iload_n 3, 1, none), (7, .iload_n 1, 1, none), (8, .invokestatic 149, 3, none), (11, .ifCond .ne 5, 3, none), (14, .iconst (-1), 1, none), (15, .ireturn, 1, none), (16, .iconst 0, 1, none), (17, .istore 4, 2, none), (19, .iload 4, 2, some [0, 1, 2, 3, 4]), (21, .aload_n 0, 1, none), (22, .getfield 26, 3, none), (25, .getfield 138, 3, none), (28, .if_icmp .ge 95, 3, none), (31, .aload_n 0, 1, none), (32, .getfield 26, 3, none), (35, .getfield 146, 3, none), (38, .iload 4, 2, none), (40, .iaload, 1, none), (41, .iload_n 1, 1, none), (42, .invokestatic 149, 3, none), (45, .ifCond .ne 6, 3, none), (48, .goto 69, 3, none), (51, .aload_n 0, 1, none), (52, .getfield 47, 3, none), (55, .iload 4, 2, none), (57, .iload_n 2, 1, none), (58, .invokevirtual 261, 3, none), (61, .istore 5, 2, none), (63, .aload_n 0, 1, none), (64, .getfield 26, 3, none), (67, .getfield 146, 3, none), (70, .iload 4, 2, none), (72, .iaload, 1, none), (73, .iload_n 3, 1, none), (74, .iand, 1, none), (75, .iload_n 1, 1, none), (76, .invokestatic 154, 3, none), (79, .iconst (-1), 1, none), (80, .ixor, 1, none), (81, .iand, 1, none), (82, .iload 5, 2, none), (84, .ior, 1, none), (85, .istore 6, 2, none), (87, .iload 5, 2, none), (89, .iload_n 1, 1, none), (90, .invokestatic 149, 3, none), (93, .ifCond .ne 24, 3, none), (96, .iload 6, 2, none), (98, .invokestatic 158, 3, none), (101, .aload_n 0, 1, none), (102, .getfield 26, 3, none), (105, .getfield 369, 3, none), (108, .iload 4, 2, none), (110, .iaload, 1, none), (111, .if_icmp .ge 6, 3, none), (114, .iload 4, 2, none), (116, .ireturn, 1, none), (117, .iinc 4 1, 3, none), (120, .goto (-101), 3, none), (123, .iconst (-1), 1, none), (124, .ireturn, 1, none)]
theorem xd_A_crewLeftShort : xm_chb xb_A_crewLeftShort xp_A_crewLeftShort = true := by decide +kernel
theorem xe_A_crewLeftShort : Cond.code xy_A_crewLeftShort xb_A_crewLeftShort 7 (some .int) ∈ xt_T := xt_in 604 (by decide +kernel) rfl
abbrev xb_A_atWorkOn : ByteArray := prog_1_method_34_code
def xy_A_atWorkOn : MethodName := ⟨"AbsenceRows", "atWorkOn", "(I)I"⟩
def xp_A_atWorkOn : xm_P := [(0, .aload_n 0, 1, none), (1, .getfield 19, 3, none), (4, .iload_n 1, 1, none), (5, .invokevirtual 360, 3, none), (8, .aload_n 0, 1, none), (9, .getfield 33, 3, none), (12, .iload_n 1, 1, none), (13, .invokevirtual 253, 3, none), (16, .iconst (-1), 1, none), (17, .ixor, 1, none), (18, .iand, 1, none), (19, .ireturn, 1, none)]
theorem xd_A_atWorkOn : xm_chb xb_A_atWorkOn xp_A_atWorkOn = true := by decide +kernel
theorem xe_A_atWorkOn : Cond.code xy_A_atWorkOn xb_A_atWorkOn 2 (some .int) ∈ xt_T := xt_in 608 (by decide +kernel) rfl
abbrev xb_P_thereOn : ByteArray := prog_7_method_5_code
def xy_P_thereOn : MethodName := ⟨"AbsenceRows$Persons", "thereOn", "(I)I"⟩
def xp_P_thereOn : xm_P := [(0, .iconst 0, 1, none), (1, .istore_n 2, 1, none), (2, .iconst 0, 1, none), (3, .istore_n 3, 1, none), (4, .iload_n 3, 1, some [0, 1, 2, 3]), (5, .aload_n 0, 1, none), (6, .getfield 9, 3, none), (9, .if_icmp .ge 26, 3, none), (12, .aload_n 0, 1, none), (13, .getfield 22, 3, none), (16, .iload_n 3, 1, none), (17, .iaload, 1, none), (18, .iload_n 1, 1, none), (19, .if_icmp .gt 10, 3, none), (22, .iload_n 2, 1, none), (23, .iload_n 3, 1, none), (24, .invokestatic 50, 3, none), (27, .ior, 1, none), (28, .istore_n 2, 1, none), (29, .iinc 3 1, 3, none), (32, .goto (-28), 3, none), (35, .iload_n 2, 1, none), (36, .ireturn, 1, none)]
theorem xd_P_thereOn : xm_chb xb_P_thereOn xp_P_thereOn = true := by decide +kernel
theorem xe_P_thereOn : Cond.code xy_P_thereOn xb_P_thereOn 4 (some .int) ∈ xt_T := xt_in 612 (by decide +kernel) rfl
abbrev xb_K_absentOn : ByteArray := prog_2_method_10_code
def xy_K_absentOn : MethodName := ⟨"AbsenceRows$Asks", "absentOn", "(I)I"⟩
def xp_K_absentOn : xm_P := [(0, .iconst 0, 1, none), (1, .istore_n 2, 1, none), (2, .iconst 0, 1, none), (3, .istore_n 3, 1, none), (4, .iload_n 3, 1, some [0, 1, 2, 3]), (5, .aload_n 0, 1, none), (6, .getfield 9, 3, none), (9, .if_icmp .ge 76, 3, none), (12, .aload_n 0, 1, none), (13, .getfield 31, 3, none), (16, .iload_n 3, 1, none), (17, .iaload, 1, none), (18, .iconst 2, 1, none), (19, .if_icmp .ne 60, 3, none), (22, .aload_n 0, 1, none), (23, .getfield 22, 3, none), (26, .iload_n 3, 1, none), (27, .iaload, 1, none), (28, .iload_n 1, 1, none), (29, .if_icmp .gt 50, 3, none), (32, .iload_n 1, 1, none), (33, .aload_n 0, 1, none), (34, .getfield 25, 3, none), (37, .iload_n 3, 1, none), (38, .iaload, 1, none), (39, .if_icmp .gt 40, 3, none), (42, .iload_n 1, 1, none), (43, .aload_n 0, 1, none), (44, .getfield 22, 3, none), (47, .iload_n 3, 1, none), (48, .iaload, 1, none), (49, .aload_n 0, 1, none), (50, .getfield 25, 3, none), (53, .iload_n 3, 1, none), (54, .iaload, 1, none), (55, .aload_n 0, 1, none), (56, .getfield 28, 3, none), (59, .iload_n 3, 1, none), (60, .iaload, 1, none), (61, .invokestatic 41, 3, none), (64, .ifCond .ne 15, 3, none), (67, .iload_n 2, 1, none), (68, .aload_n 0, 1, none), (69, .getfield 15, 3, none), (72, .iload_n 3, 1, none), (73, .iaload, 1, none), (74, .invokestatic 45, 3, none), (77, .ior, 1, none), (78, .istore_n 2, 1, none), (79, .iinc 3 1, 3, none), (82, .goto (-78), 3, none), (85, .iload_n 2, 1, none), (86, .ireturn, 1, none)]
theorem xd_K_absentOn : xm_chb xb_K_absentOn xp_K_absentOn = true := by decide +kernel
theorem xe_K_absentOn : Cond.code xy_K_absentOn xb_K_absentOn 4 (some .int) ∈ xt_T := xt_in 617 (by decide +kernel) rfl
abbrev xb_L_comeTo : ByteArray := prog_4_method_7_code
def xy_L_comeTo : MethodName := ⟨"AbsenceRows$Calls", "comeTo", "(II)I"⟩
def xp_L_comeTo : xm_P := [(0, .iconst 0, 1, none), (1, .istore_n 3, 1, none), (2, .iconst 0, 1, none), (3, .istore 4, 2, none), (5, .iload 4, 2, some [0, 1, 2, 3, 4]), (7, .aload_n 0, 1, none), (8, .getfield 9, 3, none), (11, .if_icmp .ge 55, 3, none), (14, .aload_n 0, 1, none), (15, .getfield 22, 3, none), (18, .iload 4, 2, none), (20, .iaload, 1, none), (21, .iconst 1, 1, none), (22, .if_icmp .ne 38, 3, none), (25, .aload_n 0, 1, none), (26, .getfield 15, 3, none), (29, .iload 4, 2, none), (31, .iaload, 1, none), (32, .iload_n 1, 1, none), (33, .if_icmp .ne 27, 3, none), (36, .aload_n 0, 1, none), (37, .getfield 19, 3, none), (40, .iload 4, 2, none), (42, .iaload, 1, none), (43, .iload_n 2, 1, none), (44, .if_icmp .ne 16, 3, none), (47, .iload_n 3, 1, none), (48, .aload_n 0, 1, none), (49, .getfield 25, 3, none), (52, .iload 4, 2, none), (54, .iaload, 1, none), (55, .invokestatic 38, 3, none), (58, .ior, 1, none), (59, .istore_n 3, 1, none), (60, .iinc 4 1, 3, none), (63, .goto (-58), 3, none), (66, .iload_n 3, 1, none), (67, .ireturn, 1, none)]
theorem xd_L_comeTo : xm_chb xb_L_comeTo xp_L_comeTo = true := by decide +kernel
theorem xe_L_comeTo : Cond.code xy_L_comeTo xb_L_comeTo 5 (some .int) ∈ xt_T := xt_in 623 (by decide +kernel) rfl
abbrev xb_H_keep : ByteArray := prog_6_method_3_code
def xy_H_keep : MethodName := ⟨"AbsenceRows$HeldRows", "keep", "(III)V"⟩
def xp_H_keep : xm_P := [(0, .aload_n 0, 1, none), (1, .getfield 9, 3, none), (4, .bipush 100, 2, none), (6, .if_icmp .ge 43, 3, none), (9, .aload_n 0, 1, none), (10, .getfield 15, 3, none), (13, .aload_n 0, 1, none), (14, .getfield 9, 3, none), (17, .iload_n 1, 1, none), (18, .iastore, 1, none), (19, .aload_n 0, 1, none), (20, .getfield 19, 3, none), (23, .aload_n 0, 1, none), (24, .getfield 9, 3, none), (27, .iload_n 2, 1, none), (28, .iastore, 1, none), (29, .aload_n 0, 1, none), (30, .getfield 22, 3, none), (33, .aload_n 0, 1, none), (34, .getfield 9, 3, none), (37, .iload_n 3, 1, none), (38, .iastore, 1, none), (39, .aload_n 0, 1, none), (40, .dup, 1, none), (41, .getfield 9, 3, none), (44, .iconst 1, 1, none), (45, .iadd, 1, none), (46, .putfield 9, 3, none), (49, .return_, 1, none)]
theorem xd_H_keep : xm_chb xb_H_keep xp_H_keep = true := by decide +kernel
theorem xe_H_keep : Cond.code xy_H_keep xb_H_keep 4 none ∈ xt_T := xt_in 628 (by decide +kernel) rfl
abbrev xb_K_makeLastStep : ByteArray := prog_2_method_8_code
def xy_K_makeLastStep : MethodName := ⟨"AbsenceRows$Asks", "makeLastStep", "(II)V"⟩
def xp_K_makeLastStep : xm_P := [(0, .aload_n 0, 1, none), (1, .getfield 34, 3, none), (4, .iload_n 1, 1, none), (5, .iaload, 1, none), (6, .iconst (-1), 1, none), (7, .if_icmp .ne 10, 3, none), (10, .aload_n 0, 1, none), (11, .getfield 34, 3, none), (14, .iload_n 1, 1, none), (15, .iload_n 2, 1, none), (16, .iastore, 1, none), (17, .aload_n 0, 1, none), (18, .getfield 31, 3, none), (21, .iload_n 1, 1, none), (22, .iconst 2, 1, none), (23, .iastore, 1, none), (24, .return_, 1, none)]
theorem xd_K_makeLastStep : xm_chb xb_K_makeLastStep xp_K_makeLastStep = true := by decide +kernel
theorem xe_K_makeLastStep : Cond.code xy_K_makeLastStep xb_K_makeLastStep 3 none ∈ xt_T := xt_in 632 (by decide +kernel) rfl
abbrev xb_A_withdraw : ByteArray := prog_1_method_11_code
def xy_A_withdraw : MethodName := ⟨"AbsenceRows", "withdraw", "(I)I"⟩
def xp_A_withdraw : xm_P := [(0, .aload_n 0, 1, none), (1, .getfield 33, 3, none), (4, .iload_n 1, 1, none), (5, .invokevirtual 190, 3, none), (8, .ifCond .ne 13, 3, none), (11, .new 91, 3, none), (14, .dup, 1, none), (15, .ldc 227, 2, none), (17, .invokespecial 95, 3, none), (20, .athrow, 1, none), (21, .aload_n 0, 1, none), (22, .getfield 33, 3, none), (25, .getfield 229, 3, none), (28, .iload_n 1, 1, none), (29, .iaload, 1, none), (30, .iconst 3, 1, none), (31, .if_icmp .ne 13, 3, none), (34, .new 102, 3, none), (37, .dup, 1, none), (38, .ldc 232, 2, none), (40, .invokespecial 106, 3, none), (43, .athrow, 1, none), (44, .aload_n 0, 1, none), (45, .getfield 33, 3, none), (48, .getfield 229, 3, none), (51, .iload_n 1, 1, none), (52, .iconst 3, 1, none), (53, .iastore, 1, none), (54, .aload_n 0, 1, none), (55, .iload_n 1, 1, none), (56, .invokevirtual 234, 3, none), (59, .ireturn, 1, none)]
theorem xd_A_withdraw : xm_chb xb_A_withdraw xp_A_withdraw = true := by decide +kernel
theorem xe_A_withdraw : Cond.code xy_A_withdraw xb_A_withdraw 2 (some .int) ∈ xt_T := xt_in 639 (by decide +kernel) rfl
abbrev xb_A_askAt : ByteArray := prog_1_method_12_code
def xy_A_askAt : MethodName := ⟨"AbsenceRows", "askAt", "(II)I"⟩
def xp_A_askAt : xm_P := [(0, .aload_n 0, 1, none), (1, .getfield 33, 3, none), (4, .iload_n 1, 1, none), (5, .invokevirtual 190, 3, none), (8, .ifCond .ne 13, 3, none), (11, .new 91, 3, none), (14, .dup, 1, none), (15, .ldc 227, 2, none), (17, .invokespecial 95, 3, none), (20, .athrow, 1, none), (21, .iload_n 2, 1, none), (22, .tableswitch 80 0 4 #[34, 44, 50, 60, 70], 34, none), (56, .aload_n 0, 1, none), (57, .getfield 33, 3, none), (60, .getfield 229, 3, none), (63, .iload_n 1, 1, none), (64, .iaload, 1, none), (65, .ireturn, 1, none), (66, .aload_n 0, 1, none), (67, .iload_n 1, 1, none), (68, .invokevirtual 234, 3, none), (71, .ireturn, 1, none), (72, .aload_n 0, 1, none), (73, .getfield 33, 3, none), (76, .getfield 196, 3, none), (79, .iload_n 1, 1, none), (80, .iaload, 1, none), (81, .ireturn, 1, none), (82, .aload_n 0, 1, none), (83, .getfield 33, 3, none), (86, .getfield 199, 3, none), (89, .iload_n 1, 1, none), (90, .iaload, 1, none), (91, .ireturn, 1, none), (92, .aload_n 0, 1, none), (93, .getfield 33, 3, none), (96, .getfield 237, 3, none), (99, .iload_n 1, 1, none), (100, .iaload, 1, none), (101, .ireturn, 1, none), (102, .new 91, 3, none), (105, .dup, 1, none), (106, .ldc 240, 2, none), (108, .invokespecial 95, 3, none), (111, .athrow, 1, none)]
theorem xd_A_askAt : xm_chb xb_A_askAt xp_A_askAt = true := by decide +kernel
theorem xe_A_askAt : Cond.code xy_A_askAt xb_A_askAt 3 (some .int) ∈ xt_T := xt_in 648 (by decide +kernel) rfl
abbrev xb_A_left : ByteArray := prog_1_method_13_code
def xy_A_left : MethodName := ⟨"AbsenceRows", "left", "(III)I"⟩
def xp_A_left : xm_P := [(0, .aload_n 0, 1, none), (1, .getfield 19, 3, none), (4, .iload_n 1, 1, none), (5, .invokevirtual 88, 3, none), (8, .ifCond .eq 21, 3, none), (11, .iload_n 2, 1, none), (12, .iconst 0, 1, none), (13, .iconst 1, 1, none), (14, .invokestatic 61, 3, none), (17, .ifCond .eq 12, 3, none), (20, .iload_n 3, 1, none), (21, .iconst 0, 1, none), (22, .iconst 1, 1, none), (23, .invokestatic 61, 3, none), (26, .ifCond .ne 13, 3, none), (29, .new 91, 3, none), (32, .dup, 1, none), (33, .ldc 242, 2, none), (35, .invokespecial 95, 3, none), (38, .athrow, 1, none), (39, .aload_n 0, 1, none), (40, .iload_n 1, 1, none), (41, .iload_n 2, 1, none), (42, .invokevirtual 244, 3, none), (45, .istore 4, 2, none), (47, .aload_n 0, 1, none), (48, .getfield 19, 3, none), (51, .getfield 111, 3, none), (54, .iload_n 1, 1, none), (55, .iaload, 1, none), (56, .invokestatic 247, 3, none), (59, .istore 5, 2, none), (61, .iload 4, 2, none), (63, .iload 5, 2, none), (65, .invokestatic 250, 3, none), (68, .istore 6, 2, none), (70, .iload_n 3, 1, none), (71, .ifCond .ne 8, 3, none), (74, .iload 4, 2, none), (76, .goto 5, 3, none), (79, .iload 5, 2, none), (81, .iload 6, 2, none), (83, .idiv, 1, none), (84, .ireturn, 1, none)]
theorem xd_A_left : xm_chb xb_A_left xp_A_left = true := by decide +kernel
theorem xe_A_left : Cond.code xy_A_left xb_A_left 7 (some .int) ∈ xt_T := xt_in 656 (by decide +kernel) rfl
abbrev xb_A_partsLeft : ByteArray := prog_1_method_28_code
def xy_A_partsLeft : MethodName := ⟨"AbsenceRows", "partsLeft", "(II)I"⟩
def xp_A_partsLeft : xm_P := [(0, .aload_n 0, 1, none), (1, .getfield 19, 3, none), (4, .getfield 107, 3, none), (7, .iload_n 1, 1, none), (8, .iaload, 1, none), (9, .istore_n 3, 1, none), (10, .aload_n 0, 1, none), (11, .getfield 19, 3, none), (14, .getfield 111, 3, none), (17, .iload_n 1, 1, none), (18, .iaload, 1, none), (19, .istore 4, 2, none), (21, .aload_n 0, 1, none), (22, .iload_n 3, 1, none), (23, .iload 4, 2, none), (25, .iload_n 1, 1, none), (26, .iconst 0, 1, none), (27, .iconst 0, 1, none), (28, .invokevirtual 336, 3, none), (31, .istore 5, 2, none), (33, .iload_n 2, 1, none), (34, .ifCond .ne 6, 3, none), (37, .iload 5, 2, none), (39, .ireturn, 1, none), (40, .aload_n 0, 1, none), (41, .iload_n 3, 1, none), (42, .iload 4, 2, none), (44, .iload_n 1, 1, none), (45, .iconst 1, 1, none), (46, .iconst 0, 1, none), (47, .invokevirtual 336, 3, none), (50, .aload_n 0, 1, none), (51, .iload 4, 2, none), (53, .iload 5, 2, none), (55, .invokevirtual 339, 3, none), (58, .iadd, 1, none), (59, .ireturn, 1, none)]
theorem xd_A_partsLeft : xm_chb xb_A_partsLeft xp_A_partsLeft = true := by decide +kernel
theorem xe_A_partsLeft : Cond.code xy_A_partsLeft xb_A_partsLeft 6 (some .int) ∈ xt_T := xt_in 661 (by decide +kernel) rfl
abbrev xb_A_greatestDivisor : ByteArray := prog_1_method_48_code
def xy_A_greatestDivisor : MethodName := ⟨"AbsenceRows", "greatestDivisor", "(II)I"⟩
def xp_A_greatestDivisor : xm_P := [(0, .iload_n 0, 1, none), (1, .invokestatic 395, 3, none), (4, .istore_n 2, 1, none), (5, .iload_n 1, 1, none), (6, .istore_n 3, 1, none), (7, .iconst 0, 1, none), (8, .istore 4, 2, none), (10, .iload 4, 2, some [0, 1, 2, 3, 4]), (12, .sipush 1000, 3, none), (15, .if_icmp .ge 23, 3, none), (18, .iload_n 3, 1, none), (19, .ifCond .le 19, 3, none), (22, .iload_n 2, 1, none), (23, .iload_n 3, 1, none), (24, .irem, 1, none), (25, .istore 5, 2, none), (27, .iload_n 3, 1, none), (28, .istore_n 2, 1, none), (29, .iload 5, 2, none), (31, .istore_n 3, 1, none), (32, .iinc 4 1, 3, none), (35, .goto (-25), 3, none), (38, .iconst 1, 1, none), (39, .iload_n 2, 1, none), (40, .invokestatic 333, 3, none), (43, .ireturn, 1, none)]
theorem xd_A_greatestDivisor : xm_chb xb_A_greatestDivisor xp_A_greatestDivisor = true := by decide +kernel
theorem xe_A_greatestDivisor : Cond.code xy_A_greatestDivisor xb_A_greatestDivisor 6 (some .int) ∈ xt_T := xt_in 664 (by decide +kernel) rfl
abbrev xb_J_abs : ByteArray := prog_15_method_59_code
def xy_J_abs : MethodName := ⟨"java/lang/Math", "abs", "(I)I"⟩
def xp_J_abs : xm_P := [(0, .iload_n 0, 1, none), (1, .ifCond .ge 8, 3, none), (4, .iload_n 0, 1, none), (5, .ineg, 1, none), (6, .goto 4, 3, none), (9, .iload_n 0, 1, none), (10, .ireturn, 1, none)]
theorem xd_J_abs : xm_chb xb_J_abs xp_J_abs = true := by decide +kernel
theorem xe_J_abs : Cond.code xy_J_abs xb_J_abs 1 (some .int) ∈ xt_T := xt_in 667 (by decide +kernel) rfl
abbrev xb_A_absent : ByteArray := prog_1_method_14_code
def xy_A_absent : MethodName := ⟨"AbsenceRows", "absent", "(II)Z"⟩
def xp_A_absent : xm_P := [(0, .aload_n 0, 1, none), (1, .getfield 19, 3, none), (4, .iload_n 1, 1, none), (5, .invokevirtual 88, 3, none), (8, .ifCond .ne 13, 3, none), (11, .new 91, 3, none), (14, .dup, 1, none), (15, .ldc 93, 2, none), (17, .invokespecial 95, 3, none), (20, .athrow, 1, none), (21, .iload_n 2, 1, none), (22, .invokestatic 65, 3, none), (25, .ifCond .ne 13, 3, none), (28, .new 69, 3, none), (31, .dup, 1, none), (32, .ldc 118, 2, none), (34, .invokespecial 73, 3, none), (37, .athrow, 1, none), (38, .aload_n 0, 1, none), (39, .getfield 33, 3, none), (42, .iload_n 2, 1, none), (43, .invokevirtual 253, 3, none), (46, .iload_n 1, 1, none), (47, .invokestatic 149, 3, none), (50, .ireturn, 1, none)]
theorem xd_A_absent : xm_chb xb_A_absent xp_A_absent = true := by decide +kernel
theorem xe_A_absent : Cond.code xy_A_absent xb_A_absent 3 (some .boolean) ∈ xt_T := xt_in 674 (by decide +kernel) rfl
abbrev xb_A_present : ByteArray := prog_1_method_15_code
def xy_A_present : MethodName := ⟨"AbsenceRows", "present", "(II)I"⟩
def xp_A_present : xm_P := [(0, .aload_n 0, 1, none), (1, .getfield 26, 3, none), (4, .iload_n 1, 1, none), (5, .invokevirtual 143, 3, none), (8, .ifCond .ne 14, 3, none), (11, .new 91, 3, none), (14, .dup, 1, none), (15, .ldc_w 256, 3, none), (18, .invokespecial 95, 3, none), (21, .athrow, 1, none), (22, .iload_n 2, 1, none), (23, .invokestatic 65, 3, none), (26, .ifCond .ne 13, 3, none), (29, .new 69, 3, none), (32, .dup, 1, none), (33, .ldc 118, 2, none), (35, .invokespecial 73, 3, none), (38, .athrow, 1, none), (39, .aload_n 0, 1, none), (40, .getfield 26, 3, none), (43, .getfield 146, 3, none), (46, .iload_n 1, 1, none), (47, .iaload, 1, none), (48, .aload_n 0, 1, none), (49, .iload_n 2, 1, none), (50, .invokevirtual 258, 3, none), (53, .iand, 1, none), (54, .aload_n 0, 1, none), (55, .getfield 47, 3, none), (58, .iload_n 1, 1, none), (59, .iload_n 2, 1, none), (60, .invokevirtual 261, 3, none), (63, .ior, 1, none), (64, .invokestatic 158, 3, none), (67, .ireturn, 1, none)]
theorem xd_A_present : xm_chb xb_A_present xp_A_present = true := by decide +kernel
theorem xe_A_present : Cond.code xy_A_present xb_A_present 3 (some .int) ∈ xt_T := xt_in 681 (by decide +kernel) rfl
abbrev xb_A_held : ByteArray := prog_1_method_16_code
def xy_A_held : MethodName := ⟨"AbsenceRows", "held", "(II)I"⟩
def xp_A_held : xm_P := [(0, .aload_n 0, 1, none), (1, .getfield 40, 3, none), (4, .iload_n 1, 1, none), (5, .invokevirtual 264, 3, none), (8, .ifCond .ne 14, 3, none), (11, .new 91, 3, none), (14, .dup, 1, none), (15, .ldc_w 265, 3, none), (18, .invokespecial 95, 3, none), (21, .athrow, 1, none), (22, .iload_n 2, 1, none), (23, .tableswitch 55 0 2 #[25, 35, 45], 25, none), (48, .aload_n 0, 1, none), (49, .getfield 40, 3, none), (52, .getfield 267, 3, none), (55, .iload_n 1, 1, none), (56, .iaload, 1, none), (57, .ireturn, 1, none), (58, .aload_n 0, 1, none), (59, .getfield 40, 3, none), (62, .getfield 270, 3, none), (65, .iload_n 1, 1, none), (66, .iaload, 1, none), (67, .ireturn, 1, none), (68, .aload_n 0, 1, none), (69, .getfield 40, 3, none), (72, .getfield 273, 3, none), (75, .iload_n 1, 1, none), (76, .iaload, 1, none), (77, .ireturn, 1, none), (78, .new 91, 3, none), (81, .dup, 1, none), (82, .ldc 240, 2, none), (84, .invokespecial 95, 3, none), (87, .athrow, 1, none)]
theorem xd_A_held : xm_chb xb_A_held xp_A_held = true := by decide +kernel
theorem xe_A_held : Cond.code xy_A_held xb_A_held 3 (some .int) ∈ xt_T := xt_in 689 (by decide +kernel) rfl
abbrev xb_H_has : ByteArray := prog_6_method_2_code
def xy_H_has : MethodName := ⟨"AbsenceRows$HeldRows", "has", "(I)Z"⟩
def xp_H_has : xm_P := [(0, .iload_n 1, 1, none), (1, .iconst 0, 1, none), (2, .aload_n 0, 1, none), (3, .getfield 9, 3, none), (6, .iconst 1, 1, none), (7, .isub, 1, none), (8, .invokestatic 25, 3, none), (11, .ireturn, 1, none)]
theorem xd_H_has : xm_chb xb_H_has xp_H_has = true := by decide +kernel
theorem xe_H_has : Cond.code xy_H_has xb_H_has 2 (some .boolean) ∈ xt_T := xt_in 693 (by decide +kernel) rfl
abbrev xb_A_bar : ByteArray := prog_1_method_17_code
def xy_A_bar : MethodName := ⟨"AbsenceRows", "bar", "(III)V"⟩
def xp_A_bar : xm_P := [(0, .aload_n 0, 1, none), (1, .getfield 19, 3, none), (4, .iload_n 1, 1, none), (5, .invokevirtual 88, 3, none), (8, .ifCond .eq 13, 3, none), (11, .iload_n 2, 1, none), (12, .iconst 0, 1, none), (13, .bipush 7, 2, none), (15, .invokestatic 61, 3, none), (18, .ifCond .ne 14, 3, none), (21, .new 91, 3, none), (24, .dup, 1, none), (25, .ldc_w 276, 3, none), (28, .invokespecial 95, 3, none), (31, .athrow, 1, none), (32, .iload_n 3, 1, none), (33, .invokestatic 65, 3, none), (36, .ifCond .ne 13, 3, none), (39, .new 69, 3, none), (42, .dup, 1, none), (43, .ldc 118, 2, none), (45, .invokespecial 73, 3, none), (48, .athrow, 1, none), (49, .aload_n 0, 1, none), (50, .getfield 19, 3, none), (53, .getfield 278, 3, none), (56, .iload_n 1, 1, none), (57, .bipush 8, 2, none), (59, .imul, 1, none), (60, .iload_n 2, 1, none), (61, .iadd, 1, none), (62, .iload_n 3, 1, none), (63, .iastore, 1, none), (64, .return_, 1, none)]
theorem xd_A_bar : xm_chb xb_A_bar xp_A_bar = true := by decide +kernel
theorem xe_A_bar : Cond.code xy_A_bar xb_A_bar 4 none ∈ xt_T := xt_in 702 (by decide +kernel) rfl
abbrev xb_A_patience : ByteArray := prog_1_method_18_code
def xy_A_patience : MethodName := ⟨"AbsenceRows", "patience", "(I)V"⟩
def xp_A_patience : xm_P := [(0, .iload_n 1, 1, none), (1, .iconst 1, 1, none), (2, .bipush 48, 2, none), (4, .invokestatic 61, 3, none), (7, .ifCond .ne 14, 3, none), (10, .new 69, 3, none), (13, .dup, 1, none), (14, .ldc_w 281, 3, none), (17, .invokespecial 73, 3, none), (20, .athrow, 1, none), (21, .aload_n 0, 1, none), (22, .iload_n 1, 1, none), (23, .putfield 55, 3, none), (26, .return_, 1, none)]
theorem xd_A_patience : xm_chb xb_A_patience xp_A_patience = true := by decide +kernel
theorem xe_A_patience : Cond.code xy_A_patience xb_A_patience 2 none ∈ xt_T := xt_in 710 (by decide +kernel) rfl
abbrev xb_A_call : ByteArray := prog_1_method_19_code
def xy_A_call : MethodName := ⟨"AbsenceRows", "call", "(II)I"⟩
def xp_A_call : xm_P := [(0, .aload_n 0, 1, none), (1, .getfield 26, 3, none), (4, .iload_n 1, 1, none), (5, .invokevirtual 143, 3, none), (8, .ifCond .ne 14, 3, none), (11, .new 91, 3, none), (14, .dup, 1, none), (15, .ldc_w 256, 3, none), (18, .invokespecial 95, 3, none), (21, .athrow, 1, none), (22, .iload_n 2, 1, none), (23, .invokestatic 65, 3, none), (26, .ifCond .eq 14, 3, none), (29, .iload_n 2, 1, none), (30, .aload_n 0, 1, none), (31, .getfield 58, 3, none), (34, .bipush 24, 2, none), (36, .idiv, 1, none), (37, .if_icmp .ge 14, 3, none), (40, .new 69, 3, none), (43, .dup, 1, none), (44, .ldc_w 283, 3, none), (47, .invokespecial 73, 3, none), (50, .athrow, 1, none), (51, .aload_n 0, 1, none), (52, .getfield 47, 3, none), (55, .getfield 285, 3, none), (58, .bipush 60, 2, none), (60, .if_icmp .lt 14, 3, none), (63, .new 79, 3, none), (66, .dup, 1, none), (67, .ldc_w 286, 3, none), (70, .invokespecial 83, 3, none), (73, .athrow, 1, none), (74, .aload_n 0, 1, none), (75, .getfield 47, 3, none), (78, .iload_n 1, 1, none), (79, .iload_n 2, 1, none), (80, .invokevirtual 288, 3, none), (83, .istore_n 3, 1, none), (84, .aload_n 0, 1, none), (85, .iload_n 3, 1, none), (86, .invokevirtual 289, 3, none), (89, .iload_n 3, 1, none), (90, .ireturn, 1, none)]
theorem xd_A_call : xm_chb xb_A_call xp_A_call = true := by decide +kernel
theorem xe_A_call : Cond.code xy_A_call xb_A_call 4 (some .int) ∈ xt_T := xt_in 718 (by decide +kernel) rfl
abbrev xb_L_add : ByteArray := prog_4_method_3_code
def xy_L_add : MethodName := ⟨"AbsenceRows$Calls", "add", "(II)I"⟩
def xp_L_add : xm_P := [(0, .aload_n 0, 1, none), (1, .getfield 15, 3, none), (4, .aload_n 0, 1, none), (5, .getfield 9, 3, none), (8, .iload_n 1, 1, none), (9, .iastore, 1, none), (10, .aload_n 0, 1, none), (11, .getfield 19, 3, none), (14, .aload_n 0, 1, none), (15, .getfield 9, 3, none), (18, .iload_n 2, 1, none), (19, .iastore, 1, none), (20, .aload_n 0, 1, none), (21, .getfield 22, 3, none), (24, .aload_n 0, 1, none), (25, .getfield 9, 3, none), (28, .iconst 0, 1, none), (29, .iastore, 1, none), (30, .aload_n 0, 1, none), (31, .getfield 25, 3, none), (34, .aload_n 0, 1, none), (35, .getfield 9, 3, none), (38, .iconst (-1), 1, none), (39, .iastore, 1, none), (40, .aload_n 0, 1, none), (41, .getfield 31, 3, none), (44, .aload_n 0, 1, none), (45, .getfield 9, 3, none), (48, .iconst (-1), 1, none), (49, .iastore, 1, none), (50, .aload_n 0, 1, none), (51, .dup, 1, none), (52, .getfield 9, 3, none), (55, .iconst 1, 1, none), (56, .iadd, 1, none), (57, .putfield 9, 3, none), (60, .aload_n 0, 1, none), (61, .getfield 9, 3, none), (64, .iconst 1, 1, none), (65, .isub, 1, none), (66, .ireturn, 1, none)]
theorem xd_L_add : xm_chb xb_L_add xp_L_add = true := by decide +kernel
theorem xe_L_add : Cond.code xy_L_add xb_L_add 3 (some .int) ∈ xt_T := xt_in 724 (by decide +kernel) rfl
abbrev xb_A_askNext : ByteArray := prog_1_method_37_code
def xy_A_askNext : MethodName := ⟨"AbsenceRows", "askNext", "(I)V"⟩
def xp_A_askNext : xm_P := [(0, .aload_n 0, 1, none), (1, .iload_n 1, 1, none), (2, .invokevirtual 372, 3, none), (5, .istore_n 2, 1, none), (6, .iload_n 2, 1, none), (7, .iconst (-1), 1, none), (8, .if_icmp .ne 14, 3, none), (11, .aload_n 0, 1, none), (12, .getfield 47, 3, none), (15, .iload_n 1, 1, none), (16, .invokevirtual 375, 3, none), (19, .goto 34, 3, none), (22, .aload_n 0, 1, none), (23, .getfield 19, 3, none), (26, .getfield 309, 3, none), (29, .iload_n 2, 1, none), (30, .dup2, 1, none), (31, .iaload, 1, none), (32, .iconst 1, 1, none), (33, .iadd, 1, none), (34, .iastore, 1, none), (35, .aload_n 0, 1, none), (36, .getfield 47, 3, none), (39, .iload_n 1, 1, none), (40, .iload_n 2, 1, none), (41, .aload_n 0, 1, none), (42, .getfield 58, 3, none), (45, .aload_n 0, 1, none), (46, .getfield 55, 3, none), (49, .iadd, 1, none), (50, .invokevirtual 378, 3, none), (53, .return_, 1, none)]
theorem xd_A_askNext : xm_chb xb_A_askNext xp_A_askNext = true := by decide +kernel
theorem xe_A_askNext : Cond.code xy_A_askNext xb_A_askNext 3 none ∈ xt_T := xt_in 728 (by decide +kernel) rfl
abbrev xb_A_nextToAsk : ByteArray := prog_1_method_38_code
def xy_A_nextToAsk : MethodName := ⟨"AbsenceRows", "nextToAsk", "(I)I"⟩
def xp_A_nextToAsk : xm_P := [(0, .aload_n 0, 1, none), (1, .getfield 47, 3, none), (4, .getfield 381, 3, none), (7, .iload_n 1, 1, none), (8, .iaload, 1, none), (9, .istore_n 2, 1, none), (10, .aload_n 0, 1, none), (11, .getfield 47, 3, none), (14, .getfield 382, 3, none), (17, .iload_n 1, 1, none), (18, .iaload, 1, none), (19, .istore_n 3, 1, none), (20, .aload_n 0, 1, none), (21, .iload_n 3, 1, none), (22, .invokevirtual 258, 3, none), (25, .aload_n 0, 1, none), (26, .getfield 26, 3, none), (29, .getfield 146, 3, none), (32, .iload_n 2, 1, none), (33, .iaload, 1, none), (34, .iconst (-1), 1, none), (35, .ixor, 1, none), (36, .iand, 1, none), (37, .aload_n 0, 1, none), (38, .getfield 47, 3, none), (41, .iload_n 3, 1, none), (42, .invokevirtual 383, 3, none), (45, .iconst (-1), 1, none), (46, .ixor, 1, none), (47, .iand, 1, none), (48, .aload_n 0, 1, none), (49, .getfield 47, 3, none), (52, .getfield 303, 3, none), (55, .iload_n 1, 1, none), (56, .iaload, 1, none), (57, .iconst (-1), 1, none), (58, .ixor, 1, none), (59, .iand, 1, none), (60, .istore 4, 2, none), (62, .iconst (-1), 1, none), (63, .istore 5, 2, none), (65, .iconst 0, 1, none), (66, .istore 6, 2, none), (68, .iload 6, 2, some [0, 1, 2, 3, 4, 5, 6]), (70, .aload_n 0, 1, none), (71, .getfield 19, 3, none), (74, .getfield 76, 3, none), (77, .if_icmp .ge 65, 3, none), (80, .iload 4, 2, none), (82, .iload 6, 2, none), (84, .invokestatic 149, 3, none), (87, .ifCond .eq 49, 3, none), (90, .aload_n 0, 1, none), (91, .getfield 19, 3, none), (94, .iload 6, 2, none), (96, .aload_n 0, 1, none), (97, .getfield 26, 3, none), (100, .getfield 386, 3, none), (103, .iload_n 2, 1, none), (104, .iaload, 1, none), (105, .iload_n 3, 1, none), (106, .invokevirtual 389, 3, none), (109, .ifCond .eq 27, 3, none), (112, .iload 5, 2, none), (114, .iconst (-1), 1, none), (115, .if_icmp .eq 17, 3, none), (118, .aload_n 0, 1, none), (119, .getfield 19, 3, none), (122, .iload 6, 2, none), (124, .iload 5, 2, none), (126, .invokevirtual 392, 3, none), (129, .ifCond .eq 7, 3, none), (132, .iload 6, 2, none), (134, .istore 5, 2, none), (136, .iinc 6 1, 3, none), (139, .goto (-71), 3, none), (142, .iload 5, 2, none), (144, .ireturn, 1, none)]
theorem xd_A_nextToAsk : xm_chb xb_A_nextToAsk xp_A_nextToAsk = true := by decide +kernel
theorem xe_A_nextToAsk : Cond.code xy_A_nextToAsk xb_A_nextToAsk 7 (some .int) ∈ xt_T := xt_in 732 (by decide +kernel) rfl
abbrev xb_L_engagedOn : ByteArray := prog_4_method_8_code
def xy_L_engagedOn : MethodName := ⟨"AbsenceRows$Calls", "engagedOn", "(I)I"⟩
def xp_L_engagedOn : xm_P := [(0, .iconst 0, 1, none), (1, .istore_n 2, 1, none), (2, .iconst 0, 1, none), (3, .istore_n 3, 1, none), (4, .iload_n 3, 1, some [0, 1, 2, 3]), (5, .aload_n 0, 1, none), (6, .getfield 9, 3, none), (9, .if_icmp .ge 41, 3, none), (12, .aload_n 0, 1, none), (13, .getfield 19, 3, none), (16, .iload_n 3, 1, none), (17, .iaload, 1, none), (18, .iload_n 1, 1, none), (19, .if_icmp .ne 25, 3, none), (22, .aload_n 0, 1, none), (23, .getfield 25, 3, none), (26, .iload_n 3, 1, none), (27, .iaload, 1, none), (28, .iconst (-1), 1, none), (29, .if_icmp .eq 15, 3, none), (32, .iload_n 2, 1, none), (33, .aload_n 0, 1, none), (34, .getfield 25, 3, none), (37, .iload_n 3, 1, none), (38, .iaload, 1, none), (39, .invokestatic 38, 3, none), (42, .ior, 1, none), (43, .istore_n 2, 1, none), (44, .iinc 3 1, 3, none), (47, .goto (-43), 3, none), (50, .iload_n 2, 1, none), (51, .ireturn, 1, none)]
theorem xd_L_engagedOn : xm_chb xb_L_engagedOn xp_L_engagedOn = true := by decide +kernel
theorem xe_L_engagedOn : Cond.code xy_L_engagedOn xb_L_engagedOn 4 (some .int) ∈ xt_T := xt_in 736 (by decide +kernel) rfl
abbrev xb_P_haveSkills : ByteArray := prog_7_method_6_code
def xy_P_haveSkills : MethodName := ⟨"AbsenceRows$Persons", "haveSkills", "(III)Z"⟩
def xp_P_haveSkills : xm_P := [(0, .aload_n 0, 1, none), (1, .getfield 15, 3, none), (4, .iload_n 1, 1, none), (5, .iaload, 1, none), (6, .istore 4, 2, none), (8, .iconst 0, 1, none), (9, .istore 5, 2, none), (11, .iload 5, 2, some [0, 1, 2, 3, 4, 5]), (13, .bipush 8, 2, none), (15, .if_icmp .ge 37, 3, none), (18, .iload_n 3, 1, none), (19, .aload_n 0, 1, none), (20, .getfield 34, 3, none), (23, .iload_n 1, 1, none), (24, .bipush 8, 2, none), (26, .imul, 1, none), (27, .iload 5, 2, none), (29, .iadd, 1, none), (30, .iaload, 1, none), (31, .if_icmp .ge 15, 3, none), (34, .iload 4, 2, none), (36, .iload 5, 2, none), (38, .invokestatic 50, 3, none), (41, .iconst (-1), 1, none), (42, .ixor, 1, none), (43, .iand, 1, none), (44, .istore 4, 2, none), (46, .iinc 5 1, 3, none), (49, .goto (-38), 3, none), (52, .iload 4, 2, none), (54, .iload_n 2, 1, none), (55, .iand, 1, none), (56, .iload_n 2, 1, none), (57, .if_icmp .ne 7, 3, none), (60, .iconst 1, 1, none), (61, .goto 4, 3, none), (64, .iconst 0, 1, none), (65, .ireturn, 1, none)]
theorem xd_P_haveSkills : xm_chb xb_P_haveSkills xp_P_haveSkills = true := by decide +kernel
theorem xe_P_haveSkills : Cond.code xy_P_haveSkills xb_P_haveSkills 6 (some .boolean) ∈ xt_T := xt_in 740 (by decide +kernel) rfl
abbrev xb_P_goesBefore : ByteArray := prog_7_method_7_code
def xy_P_goesBefore : MethodName := ⟨"AbsenceRows$Persons", "goesBefore", "(II)Z"⟩
def xp_P_goesBefore : xm_P := [(0, .aload_n 0, 1, none), (1, .getfield 19, 3, none), (4, .iload_n 1, 1, none), (5, .iaload, 1, none), (6, .aload_n 0, 1, none), (7, .getfield 19, 3, none), (10, .iload_n 2, 1, none), (11, .iaload, 1, none), (12, .if_icmp .eq 24, 3, none), (15, .aload_n 0, 1, none), (16, .getfield 19, 3, none), (19, .iload_n 1, 1, none), (20, .iaload, 1, none), (21, .aload_n 0, 1, none), (22, .getfield 19, 3, none), (25, .iload_n 2, 1, none), (26, .iaload, 1, none), (27, .if_icmp .le 7, 3, none), (30, .iconst 1, 1, none), (31, .goto 4, 3, none), (34, .iconst 0, 1, none), (35, .ireturn, 1, none), (36, .aload_n 0, 1, none), (37, .getfield 31, 3, none), (40, .iload_n 1, 1, none), (41, .iaload, 1, none), (42, .aload_n 0, 1, none), (43, .getfield 31, 3, none), (46, .iload_n 2, 1, none), (47, .iaload, 1, none), (48, .if_icmp .ge 7, 3, none), (51, .iconst 1, 1, none), (52, .goto 4, 3, none), (55, .iconst 0, 1, none), (56, .ireturn, 1, none)]
theorem xd_P_goesBefore : xm_chb xb_P_goesBefore xp_P_goesBefore = true := by decide +kernel
theorem xe_P_goesBefore : Cond.code xy_P_goesBefore xb_P_goesBefore 3 (some .boolean) ∈ xt_T := xt_in 744 (by decide +kernel) rfl
abbrev xb_L_fail : ByteArray := prog_4_method_6_code
def xy_L_fail : MethodName := ⟨"AbsenceRows$Calls", "fail", "(I)V"⟩
def xp_L_fail : xm_P := [(0, .aload_n 0, 1, none), (1, .getfield 22, 3, none), (4, .iload_n 1, 1, none), (5, .iconst 2, 1, none), (6, .iastore, 1, none), (7, .aload_n 0, 1, none), (8, .getfield 25, 3, none), (11, .iload_n 1, 1, none), (12, .iconst (-1), 1, none), (13, .iastore, 1, none), (14, .aload_n 0, 1, none), (15, .getfield 31, 3, none), (18, .iload_n 1, 1, none), (19, .iconst (-1), 1, none), (20, .iastore, 1, none), (21, .return_, 1, none)]
theorem xd_L_fail : xm_chb xb_L_fail xp_L_fail = true := by decide +kernel
theorem xe_L_fail : Cond.code xy_L_fail xb_L_fail 2 none ∈ xt_T := xt_in 748 (by decide +kernel) rfl
abbrev xb_L_waitFor : ByteArray := prog_4_method_4_code
def xy_L_waitFor : MethodName := ⟨"AbsenceRows$Calls", "waitFor", "(III)V"⟩
def xp_L_waitFor : xm_P := [(0, .aload_n 0, 1, none), (1, .getfield 25, 3, none), (4, .iload_n 1, 1, none), (5, .iload_n 2, 1, none), (6, .iastore, 1, none), (7, .aload_n 0, 1, none), (8, .getfield 28, 3, none), (11, .iload_n 1, 1, none), (12, .dup2, 1, none), (13, .iaload, 1, none), (14, .iload_n 2, 1, none), (15, .invokestatic 38, 3, none), (18, .ior, 1, none), (19, .iastore, 1, none), (20, .aload_n 0, 1, none), (21, .getfield 31, 3, none), (24, .iload_n 1, 1, none), (25, .iload_n 3, 1, none), (26, .iastore, 1, none), (27, .return_, 1, none)]
theorem xd_L_waitFor : xm_chb xb_L_waitFor xp_L_waitFor = true := by decide +kernel
theorem xe_L_waitFor : Cond.code xy_L_waitFor xb_L_waitFor 4 none ∈ xt_T := xt_in 752 (by decide +kernel) rfl
abbrev xb_A_answer : ByteArray := prog_1_method_20_code
def xy_A_answer : MethodName := ⟨"AbsenceRows", "answer", "(IZ)I"⟩
def xp_A_answer : xm_P := [(0, .aload_n 0, 1, none), (1, .getfield 47, 3, none), (4, .iload_n 1, 1, none), (5, .invokevirtual 293, 3, none), (8, .ifCond .ne 14, 3, none), (11, .new 91, 3, none), (14, .dup, 1, none), (15, .ldc_w 294, 3, none), (18, .invokespecial 95, 3, none), (21, .athrow, 1, none), (22, .aload_n 0, 1, none), (23, .getfield 47, 3, none), (26, .getfield 296, 3, none), (29, .iload_n 1, 1, none), (30, .iaload, 1, none), (31, .ifCond .eq 14, 3, none), (34, .new 102, 3, none), (37, .dup, 1, none), (38, .ldc_w 297, 3, none), (41, .invokespecial 106, 3, none), (44, .athrow, 1, none), (45, .iload_n 2, 1, none), (46, .ifCond .eq 14, 3, none), (49, .aload_n 0, 1, none), (50, .getfield 47, 3, none), (53, .iload_n 1, 1, none), (54, .invokevirtual 299, 3, none), (57, .goto 8, 3, none), (60, .aload_n 0, 1, none), (61, .iload_n 1, 1, none), (62, .invokevirtual 289, 3, none), (65, .aload_n 0, 1, none), (66, .getfield 47, 3, none), (69, .getfield 296, 3, none), (72, .iload_n 1, 1, none), (73, .iaload, 1, none), (74, .ireturn, 1, none)]
theorem xd_A_answer : xm_chb xb_A_answer xp_A_answer = true := by decide +kernel
theorem xe_A_answer : Cond.code xy_A_answer xb_A_answer 3 (some .int) ∈ xt_T := xt_in 759 (by decide +kernel) rfl
abbrev xb_L_has : ByteArray := prog_4_method_2_code
def xy_L_has : MethodName := ⟨"AbsenceRows$Calls", "has", "(I)Z"⟩
def xp_L_has : xm_P := [(0, .iload_n 1, 1, none), (1, .iconst 0, 1, none), (2, .aload_n 0, 1, none), (3, .getfield 9, 3, none), (6, .iconst 1, 1, none), (7, .isub, 1, none), (8, .invokestatic 34, 3, none), (11, .ireturn, 1, none)]
theorem xd_L_has : xm_chb xb_L_has xp_L_has = true := by decide +kernel
theorem xe_L_has : Cond.code xy_L_has xb_L_has 2 (some .boolean) ∈ xt_T := xt_in 763 (by decide +kernel) rfl
abbrev xb_L_fill : ByteArray := prog_4_method_5_code
def xy_L_fill : MethodName := ⟨"AbsenceRows$Calls", "fill", "(I)V"⟩
def xp_L_fill : xm_P := [(0, .aload_n 0, 1, none), (1, .getfield 22, 3, none), (4, .iload_n 1, 1, none), (5, .iconst 1, 1, none), (6, .iastore, 1, none), (7, .aload_n 0, 1, none), (8, .getfield 31, 3, none), (11, .iload_n 1, 1, none), (12, .iconst (-1), 1, none), (13, .iastore, 1, none), (14, .return_, 1, none)]
theorem xd_L_fill : xm_chb xb_L_fill xp_L_fill = true := by decide +kernel
theorem xe_L_fill : Cond.code xy_L_fill xb_L_fill 2 none ∈ xt_T := xt_in 770 (by decide +kernel) rfl
abbrev xb_A_callAt : ByteArray := prog_1_method_21_code
def xy_A_callAt : MethodName := ⟨"AbsenceRows", "callAt", "(II)I"⟩
def xp_A_callAt : xm_P := [(0, .aload_n 0, 1, none), (1, .getfield 47, 3, none), (4, .iload_n 1, 1, none), (5, .invokevirtual 293, 3, none), (8, .ifCond .ne 14, 3, none), (11, .new 91, 3, none), (14, .dup, 1, none), (15, .ldc_w 294, 3, none), (18, .invokespecial 95, 3, none), (21, .athrow, 1, none), (22, .iload_n 2, 1, none), (23, .tableswitch 72 0 3 #[29, 39, 49, 62], 29, none), (52, .aload_n 0, 1, none), (53, .getfield 47, 3, none), (56, .getfield 296, 3, none), (59, .iload_n 1, 1, none), (60, .iaload, 1, none), (61, .ireturn, 1, none), (62, .aload_n 0, 1, none), (63, .getfield 47, 3, none), (66, .getfield 302, 3, none), (69, .iload_n 1, 1, none), (70, .iaload, 1, none), (71, .ireturn, 1, none), (72, .aload_n 0, 1, none), (73, .getfield 47, 3, none), (76, .getfield 303, 3, none), (79, .iload_n 1, 1, none), (80, .iaload, 1, none), (81, .invokestatic 158, 3, none), (84, .ireturn, 1, none), (85, .aload_n 0, 1, none), (86, .getfield 47, 3, none), (89, .getfield 306, 3, none), (92, .iload_n 1, 1, none), (93, .iaload, 1, none), (94, .ireturn, 1, none), (95, .new 91, 3, none), (98, .dup, 1, none), (99, .ldc 240, 2, none), (101, .invokespecial 95, 3, none), (104, .athrow, 1, none)]
theorem xd_A_callAt : xm_chb xb_A_callAt xp_A_callAt = true := by decide +kernel
theorem xe_A_callAt : Cond.code xy_A_callAt xb_A_callAt 3 (some .int) ∈ xt_T := xt_in 777 (by decide +kernel) rfl
abbrev xb_A_asked : ByteArray := prog_1_method_22_code
def xy_A_asked : MethodName := ⟨"AbsenceRows", "asked", "(I)I"⟩
def xp_A_asked : xm_P := [(0, .aload_n 0, 1, none), (1, .getfield 19, 3, none), (4, .iload_n 1, 1, none), (5, .invokevirtual 88, 3, none), (8, .ifCond .ne 13, 3, none), (11, .new 91, 3, none), (14, .dup, 1, none), (15, .ldc 93, 2, none), (17, .invokespecial 95, 3, none), (20, .athrow, 1, none), (21, .aload_n 0, 1, none), (22, .getfield 19, 3, none), (25, .getfield 309, 3, none), (28, .iload_n 1, 1, none), (29, .iaload, 1, none), (30, .ireturn, 1, none)]
theorem xd_A_asked : xm_chb xb_A_asked xp_A_asked = true := by decide +kernel
theorem xe_A_asked : Cond.code xy_A_asked xb_A_asked 2 (some .int) ∈ xt_T := xt_in 784 (by decide +kernel) rfl
abbrev xb_A_tick : ByteArray := prog_1_method_23_code
def xy_A_tick : MethodName := ⟨"AbsenceRows", "tick", "(I)I"⟩
def xp_A_tick : xm_P := [(0, .iload_n 1, 1, none), (1, .iconst 1, 1, none), (2, .sipush 2000, 3, none), (5, .invokestatic 61, 3, none), (8, .ifCond .eq 15, 3, none), (11, .iload_n 1, 1, none), (12, .sipush 17519, 3, none), (15, .aload_n 0, 1, none), (16, .getfield 58, 3, none), (19, .isub, 1, none), (20, .if_icmp .le 14, 3, none), (23, .new 69, 3, none), (26, .dup, 1, none), (27, .ldc_w 281, 3, none), (30, .invokespecial 73, 3, none), (33, .athrow, 1, none), (34, .aload_n 0, 1, none), (35, .getfield 58, 3, none), (38, .iload_n 1, 1, none), (39, .iadd, 1, none), (40, .istore_n 2, 1, none), (41, .iconst 0, 1, none), (42, .istore_n 3, 1, none), (43, .iconst 0, 1, none), (44, .istore 4, 2, none), (46, .iload 4, 2, some [0, 1, 2, 3, 4]), (48, .iload_n 1, 1, none), (49, .if_icmp .ge 46, 3, none), (52, .aload_n 0, 1, none), (53, .getfield 47, 3, none), (56, .invokevirtual 312, 3, none), (59, .istore 5, 2, none), (61, .iload 5, 2, none), (63, .iconst (-1), 1, none), (64, .if_icmp .eq 31, 3, none), (67, .iload 5, 2, none), (69, .iload_n 2, 1, none), (70, .if_icmp .le 6, 3, none), (73, .goto 22, 3, none), (76, .aload_n 0, 1, none), (77, .iload 5, 2, none), (79, .putfield 58, 3, none), (82, .iload_n 3, 1, none), (83, .aload_n 0, 1, none), (84, .invokevirtual 316, 3, none), (87, .iadd, 1, none), (88, .istore_n 3, 1, none), (89, .iinc 4 1, 3, none), (92, .goto (-46), 3, none), (95, .aload_n 0, 1, none), (96, .iload_n 2, 1, none), (97, .putfield 58, 3, none), (100, .iload_n 3, 1, none), (101, .ireturn, 1, none)]
theorem xd_A_tick : xm_chb xb_A_tick xp_A_tick = true := by decide +kernel
theorem xe_A_tick : Cond.code xy_A_tick xb_A_tick 6 (some .int) ∈ xt_T := xt_in 791 (by decide +kernel) rfl
abbrev xb_L_earliestNextAt : ByteArray := prog_4_method_9_code
def xy_L_earliestNextAt : MethodName := ⟨"AbsenceRows$Calls", "earliestNextAt", "()I"⟩
def xp_L_earliestNextAt : xm_P := [(0, .iconst (-1), 1, none), (1, .istore_n 1, 1, none), (2, .iconst 0, 1, none), (3, .istore_n 2, 1, none), (4, .iload_n 2, 1, some [0, 1, 2]), (5, .aload_n 0, 1, none), (6, .getfield 9, 3, none), (9, .if_icmp .ge 41, 3, none), (12, .aload_n 0, 1, none), (13, .getfield 31, 3, none), (16, .iload_n 2, 1, none), (17, .iaload, 1, none), (18, .iconst (-1), 1, none), (19, .if_icmp .eq 25, 3, none), (22, .iload_n 1, 1, none), (23, .iconst (-1), 1, none), (24, .if_icmp .eq 13, 3, none), (27, .aload_n 0, 1, none), (28, .getfield 31, 3, none), (31, .iload_n 2, 1, none), (32, .iaload, 1, none), (33, .iload_n 1, 1, none), (34, .if_icmp .ge 10, 3, none), (37, .aload_n 0, 1, none), (38, .getfield 31, 3, none), (41, .iload_n 2, 1, none), (42, .iaload, 1, none), (43, .istore_n 1, 1, none), (44, .iinc 2 1, 3, none), (47, .goto (-43), 3, none), (50, .iload_n 1, 1, none), (51, .ireturn, 1, none)]
theorem xd_L_earliestNextAt : xm_chb xb_L_earliestNextAt xp_L_earliestNextAt = true := by decide +kernel
theorem xe_L_earliestNextAt : Cond.code xy_L_earliestNextAt xb_L_earliestNextAt 3 (some .int) ∈ xt_T := xt_in 795 (by decide +kernel) rfl
abbrev xb_A_goOnWithoutAnswer : ByteArray := prog_1_method_39_code
def xy_A_goOnWithoutAnswer : MethodName := ⟨"AbsenceRows", "goOnWithoutAnswer", "()I"⟩
def xp_A_goOnWithoutAnswer : xm_P := [(0, .iconst 0, 1, none), (1, .istore_n 1, 1, none), (2, .iconst 0, 1, none), (3, .istore_n 2, 1, none), (4, .iload_n 2, 1, some [0, 1, 2]), (5, .aload_n 0, 1, none), (6, .getfield 47, 3, none), (9, .getfield 285, 3, none), (12, .if_icmp .ge 45, 3, none), (15, .aload_n 0, 1, none), (16, .getfield 47, 3, none), (19, .getfield 296, 3, none), (22, .iload_n 2, 1, none), (23, .iaload, 1, none), (24, .ifCond .ne 27, 3, none), (27, .aload_n 0, 1, none), (28, .getfield 47, 3, none), (31, .getfield 306, 3, none), (34, .iload_n 2, 1, none), (35, .iaload, 1, none), (36, .aload_n 0, 1, none), (37, .getfield 58, 3, none), (40, .if_icmp .gt 11, 3, none), (43, .aload_n 0, 1, none), (44, .iload_n 2, 1, none), (45, .invokevirtual 289, 3, none), (48, .iinc 1 1, 3, none), (51, .iinc 2 1, 3, none), (54, .goto (-50), 3, none), (57, .iload_n 1, 1, none), (58, .ireturn, 1, none)]
theorem xd_A_goOnWithoutAnswer : xm_chb xb_A_goOnWithoutAnswer xp_A_goOnWithoutAnswer = true := by decide +kernel
theorem xe_A_goOnWithoutAnswer : Cond.code xy_A_goOnWithoutAnswer xb_A_goOnWithoutAnswer 3 (some .int) ∈ xt_T := xt_in 799 (by decide +kernel) rfl
abbrev xb_M_thrown : ByteArray := prog_9_method_2_code
def xy_M_thrown : MethodName := ⟨"AbsenceRowsModel", "thrown", "()I"⟩
def xp_M_thrown : xm_P := [(0, .aload_n 0, 1, none), (1, .getfield 99, 3, none), (4, .ireturn, 1, none)]
theorem xd_M_thrown : xm_chb xb_M_thrown xp_M_thrown = true := by decide +kernel
theorem xe_M_thrown : Cond.code xy_M_thrown xb_M_thrown 1 (some .int) ∈ xt_T := xt_in 921 (by decide +kernel) rfl
abbrev xb_M_person : ByteArray := prog_9_method_9_code
def xy_M_person : MethodName := ⟨"AbsenceRowsModel", "person", "(III)I"⟩
def xp_M_person : xm_P := [(0, .aload_n 0, 1, none), (1, .bipush 10, 2, none), (3, .iconst 1, 1, none), (4, .iload_n 1, 1, none), (5, .iconst 0, 1, none), (6, .sipush 255, 3, none), (9, .invokestatic 102, 3, none), (12, .ifCond .eq 24, 3, none), (15, .iload_n 2, 1, none), (16, .iconst 0, 1, none), (17, .bipush 9, 2, none), (19, .invokestatic 102, 3, none), (22, .ifCond .eq 14, 3, none), (25, .iload_n 3, 1, none), (26, .invokestatic 112, 3, none), (29, .ifCond .eq 7, 3, none), (32, .iconst 1, 1, none), (33, .goto 4, 3, none), (36, .iconst 0, 1, none), (37, .iconst 1, 1, none), (38, .aload_n 0, 1, none), (39, .getfield 106, 3, none), (42, .bipush 20, 2, none), (44, .if_icmp .ge 7, 3, none), (47, .iconst 1, 1, none), (48, .goto 4, 3, none), (51, .iconst 0, 1, none), (52, .invokevirtual 116, 3, none), (55, .ifCond .ne 5, 3, none), (58, .iconst 0, 1, none), (59, .ireturn, 1, none), (60, .aload_n 0, 1, none), (61, .getfield 13, 3, none), (64, .aload_n 0, 1, none), (65, .getfield 106, 3, none), (68, .iload_n 1, 1, none), (69, .iastore, 1, none), (70, .aload_n 0, 1, none), (71, .getfield 17, 3, none), (74, .aload_n 0, 1, none), (75, .getfield 106, 3, none), (78, .iload_n 2, 1, none), (79, .iastore, 1, none), (80, .aload_n 0, 1, none), (81, .getfield 20, 3, none), (84, .aload_n 0, 1, none), (85, .getfield 106, 3, none), (88, .iload_n 3, 1, none), (89, .iastore, 1, none), (90, .aload_n 0, 1, none), (91, .getfield 23, 3, none), (94, .aload_n 0, 1, none), (95, .getfield 106, 3, none), (98, .iconst 0, 1, none), (99, .iastore, 1, none), (100, .aload_n 0, 1, none), (101, .getfield 26, 3, none), (104, .aload_n 0, 1, none), (105, .getfield 106, 3, none), (108, .iconst 1, 1, none), (109, .iastore, 1, none), (110, .aload_n 0, 1, none), (111, .dup, 1, none), (112, .getfield 106, 3, none), (115, .iconst 1, 1, none), (116, .iadd, 1, none), (117, .putfield 106, 3, none), (120, .aload_n 0, 1, none), (121, .getfield 106, 3, none), (124, .iconst 1, 1, none), (125, .isub, 1, none), (126, .ireturn, 1, none)]
theorem xd_M_person : xm_chb xb_M_person xp_M_person = true := by decide +kernel
theorem xe_M_person : Cond.code xy_M_person xb_M_person 4 (some .int) ∈ xt_T := xt_in 925 (by decide +kernel) rfl
abbrev xb_M_in : ByteArray := prog_9_method_3_code
def xy_M_in : MethodName := ⟨"AbsenceRowsModel", "in", "(III)Z"⟩
def xp_M_in : xm_P := [(0, .iload_n 0, 1, none), (1, .iload_n 1, 1, none), (2, .if_icmp .lt 12, 3, none), (5, .iload_n 0, 1, none), (6, .iload_n 2, 1, none), (7, .if_icmp .gt 7, 3, none), (10, .iconst 1, 1, none), (11, .goto 4, 3, none), (14, .iconst 0, 1, none), (15, .ireturn, 1, none)]
theorem xd_M_in : xm_chb xb_M_in xp_M_in = true := by decide +kernel
theorem xe_M_in : Cond.code xy_M_in xb_M_in 3 (some .boolean) ∈ xt_T := xt_in 928 (by decide +kernel) rfl
abbrev xb_M_isDay : ByteArray := prog_9_method_5_code
def xy_M_isDay : MethodName := ⟨"AbsenceRowsModel", "isDay", "(I)Z"⟩
def xp_M_isDay : xm_P := [(0, .iload_n 0, 1, none), (1, .iconst 0, 1, none), (2, .sipush 729, 3, none), (5, .invokestatic 102, 3, none), (8, .ireturn, 1, none)]
theorem xd_M_isDay : xm_chb xb_M_isDay xp_M_isDay = true := by decide +kernel
theorem xe_M_isDay : Cond.code xy_M_isDay xb_M_isDay 1 (some .boolean) ∈ xt_T := xt_in 931 (by decide +kernel) rfl
abbrev xb_M_goes : ByteArray := prog_9_method_4_code
def xy_M_goes : MethodName := ⟨"AbsenceRowsModel", "goes", "(IZZZZ)Z"⟩
def xp_M_goes : xm_P := [(0, .iload_n 2, 1, none), (1, .ifCond .ne 7, 3, none), (4, .iconst 1, 1, none), (5, .goto 31, 3, none), (8, .iload_n 3, 1, none), (9, .ifCond .ne 7, 3, none), (12, .iconst 2, 1, none), (13, .goto 23, 3, none), (16, .iload 4, 2, none), (18, .ifCond .ne 7, 3, none), (21, .iconst 4, 1, none), (22, .goto 14, 3, none), (25, .iload 5, 2, none), (27, .ifCond .ne 8, 3, none), (30, .bipush 8, 2, none), (32, .goto 4, 3, none), (35, .iconst 0, 1, none), (36, .istore 6, 2, none), (38, .aload_n 0, 1, none), (39, .iconst 0, 1, none), (40, .putfield 99, 3, none), (43, .iconst 1, 1, none), (44, .istore 7, 2, none), (46, .iload 7, 2, some [0, 1, 2, 3, 4, 5, 6, 7]), (48, .iload 6, 2, none), (50, .if_icmp .gt 29, 3, none), (53, .iload_n 1, 1, none), (54, .iload 7, 2, none), (56, .iand, 1, none), (57, .ifCond .le 13, 3, none), (60, .aload_n 0, 1, none), (61, .dup, 1, none), (62, .getfield 99, 3, none), (65, .iconst 1, 1, none), (66, .iadd, 1, none), (67, .putfield 99, 3, none), (70, .iconst 2, 1, none), (71, .iload 7, 2, none), (73, .imul, 1, none), (74, .istore 7, 2, none), (76, .goto (-30), 3, none), (79, .iload 6, 2, none), (81, .ifCond .ne 7, 3, none), (84, .iconst 1, 1, none), (85, .goto 4, 3, none), (88, .iconst 0, 1, none), (89, .ireturn, 1, none)]
theorem xd_M_goes : xm_chb xb_M_goes xp_M_goes = true := by decide +kernel
theorem xe_M_goes : Cond.code xy_M_goes xb_M_goes 8 (some .boolean) ∈ xt_T := xt_in 935 (by decide +kernel) rfl
abbrev xb_M_budget : ByteArray := prog_9_method_16_code
def xy_M_budget : MethodName := ⟨"AbsenceRowsModel", "budget", "(III)V"⟩
def xp_M_budget : xm_P := [(0, .aload_n 0, 1, none), (1, .iload_n 1, 1, none), (2, .invokevirtual 151, 3, none), (5, .istore 4, 2, none), (7, .iload_n 2, 1, none), (8, .iconst 0, 1, none), (9, .sipush 400, 3, none), (12, .invokestatic 102, 3, none), (15, .ifCond .eq 17, 3, none), (18, .iload_n 3, 1, none), (19, .iconst 1, 1, none), (20, .bipush 12, 2, none), (22, .invokestatic 102, 3, none), (25, .ifCond .eq 7, 3, none), (28, .iconst 1, 1, none), (29, .goto 4, 3, none), (32, .iconst 0, 1, none), (33, .istore 5, 2, none), (35, .iload 4, 2, none), (37, .ifCond .eq 12, 3, none), (40, .aload_n 0, 1, none), (41, .getfield 23, 3, none), (44, .iload_n 1, 1, none), (45, .iaload, 1, none), (46, .goto 4, 3, none), (49, .iconst 0, 1, none), (50, .istore 6, 2, none), (52, .iload 4, 2, none), (54, .ifCond .eq 12, 3, none), (57, .aload_n 0, 1, none), (58, .getfield 26, 3, none), (61, .iload_n 1, 1, none), (62, .iaload, 1, none), (63, .goto 4, 3, none), (66, .iconst 1, 1, none), (67, .istore 7, 2, none), (69, .iload 4, 2, none), (71, .ifCond .eq 22, 3, none), (74, .iload 5, 2, none), (76, .ifCond .eq 17, 3, none), (79, .aload_n 0, 1, none), (80, .getfield 23, 3, none), (83, .iload_n 1, 1, none), (84, .iload_n 2, 1, none), (85, .iastore, 1, none), (86, .aload_n 0, 1, none), (87, .getfield 26, 3, none), (90, .iload_n 1, 1, none), (91, .iload_n 3, 1, none), (92, .iastore, 1, none), (93, .iload 4, 2, none), (95, .ifCond .eq 20, 3, none), (98, .iload 5, 2, none), (100, .ifCond .eq 15, 3, none), (103, .aload_n 0, 1, none), (104, .iload_n 1, 1, none), (105, .invokevirtual 154, 3, none), (108, .ifCond .eq 7, 3, none), (111, .iconst 1, 1, none), (112, .goto 4, 3, none), (115, .iconst 0, 1, none), (116, .istore 8, 2, none), (118, .iload 4, 2, none), (120, .ifCond .eq 19, 3, none), (123, .aload_n 0, 1, none), (124, .getfield 23, 3, none), (127, .iload_n 1, 1, none), (128, .iload 6, 2, none), (130, .iastore, 1, none), (131, .aload_n 0, 1, none), (132, .getfield 26, 3, none), (135, .iload_n 1, 1, none), (136, .iload 7, 2, none), (138, .iastore, 1, none), (139, .aload_n 0, 1, none), (140, .bipush 7, 2, none), (142, .iload 4, 2, none), (144, .iload 5, 2, none), (146, .iload 8, 2, none), (148, .iconst 1, 1, none), (149, .invokevirtual 116, 3, none), (152, .ifCond .ne 4, 3, none), (155, .return_, 1, none), (156, .aload_n 0, 1, none), (157, .getfield 23, 3, none), (160, .iload_n 1, 1, none), (161, .iload_n 2, 1, none), (162, .iastore, 1, none), (163, .aload_n 0, 1, none), (164, .getfield 26, 3, none), (167, .iload_n 1, 1, none), (168, .iload_n 3, 1, none), (169, .iastore, 1, none), (170, .return_, 1, none)]
theorem xd_M_budget : xm_chb xb_M_budget xp_M_budget = true := by decide +kernel
theorem xe_M_budget : Cond.code xy_M_budget xb_M_budget 9 none ∈ xt_T := xt_in 939 (by decide +kernel) rfl
abbrev xb_M_isPerson : ByteArray := prog_9_method_6_code
def xy_M_isPerson : MethodName := ⟨"AbsenceRowsModel", "isPerson", "(I)Z"⟩
def xp_M_isPerson : xm_P := [(0, .iload_n 1, 1, none), (1, .iconst 0, 1, none), (2, .aload_n 0, 1, none), (3, .getfield 106, 3, none), (6, .iconst 1, 1, none), (7, .isub, 1, none), (8, .invokestatic 102, 3, none), (11, .ireturn, 1, none)]
theorem xd_M_isPerson : xm_chb xb_M_isPerson xp_M_isPerson = true := by decide +kernel
theorem xe_M_isPerson : Cond.code xy_M_isPerson xb_M_isPerson 2 (some .boolean) ∈ xt_T := xt_in 943 (by decide +kernel) rfl
abbrev xb_M_isEnough : ByteArray := prog_9_method_15_code
def xy_M_isEnough : MethodName := ⟨"AbsenceRowsModel", "isEnough", "(I)Z"⟩
def xp_M_isEnough : xm_P := [(0, .aload_n 0, 1, none), (1, .iload_n 1, 1, none), (2, .iconst 0, 1, none), (3, .invokevirtual 148, 3, none), (6, .lconst 0, 1, none), (7, .lcmp, 1, none), (8, .ifCond .lt 18, 3, none), (11, .aload_n 0, 1, none), (12, .iload_n 1, 1, none), (13, .iconst 1, 1, none), (14, .invokevirtual 148, 3, none), (17, .lconst 0, 1, none), (18, .lcmp, 1, none), (19, .ifCond .lt 7, 3, none), (22, .iconst 1, 1, none), (23, .goto 4, 3, none), (26, .iconst 0, 1, none), (27, .ireturn, 1, none)]
theorem xd_M_isEnough : xm_chb xb_M_isEnough xp_M_isEnough = true := by decide +kernel
theorem xe_M_isEnough : Cond.code xy_M_isEnough xb_M_isEnough 2 (some .boolean) ∈ xt_T := xt_in 947 (by decide +kernel) rfl
abbrev xb_M_restOf : ByteArray := prog_9_method_14_code
def xy_M_restOf : MethodName := ⟨"AbsenceRowsModel", "restOf", "(II)J"⟩
def xp_M_restOf : xm_P := [(0, .aload_n 0, 1, none), (1, .iload_n 1, 1, none), (2, .iload_n 2, 1, none), (3, .invokevirtual 138, 3, none), (6, .lstore_n 3, 1, none), (7, .iload_n 2, 1, none), (8, .ifCond .ne 5, 3, none), (11, .lload_n 3, 1, none), (12, .lreturn, 1, none), (13, .aload_n 0, 1, none), (14, .iload_n 1, 1, none), (15, .iconst 0, 1, none), (16, .invokevirtual 138, 3, none), (19, .lstore 5, 2, none), (21, .aload_n 0, 1, none), (22, .getfield 142, 3, none), (25, .i2l, 1, none), (26, .aload_n 0, 1, none), (27, .iload_n 1, 1, none), (28, .invokevirtual 145, 3, none), (31, .i2l, 1, none), (32, .lmul, 1, none), (33, .lstore 7, 2, none), (35, .lload 5, 2, none), (37, .lload 7, 2, none), (39, .lcmp, 1, none), (40, .ifCond .le 7, 3, none), (43, .lload 7, 2, none), (45, .lstore 5, 2, none), (47, .lload 5, 2, none), (49, .lconst 0, 1, none), (50, .lcmp, 1, none), (51, .ifCond .le 10, 3, none), (54, .lload_n 3, 1, none), (55, .lload 5, 2, none), (57, .ladd, 1, none), (58, .goto 4, 3, none), (61, .lload_n 3, 1, none), (62, .lreturn, 1, none)]
theorem xd_M_restOf : xm_chb xb_M_restOf xp_M_restOf = true := by decide +kernel
theorem xe_M_restOf : Cond.code xy_M_restOf xb_M_restOf 9 (some .long) ∈ xt_T := xt_in 951 (by decide +kernel) rfl
abbrev xb_M_rest : ByteArray := prog_9_method_13_code
def xy_M_rest : MethodName := ⟨"AbsenceRowsModel", "rest", "(II)J"⟩
def xp_M_rest : xm_P := [(0, .lconst 0, 1, none), (1, .lstore_n 3, 1, none), (2, .iload_n 2, 1, none), (3, .sipush 365, 3, none), (6, .imul, 1, none), (7, .istore 5, 2, none), (9, .iload 5, 2, some [0, 1, 2, 3, 5]), (11, .iload_n 2, 1, none), (12, .iconst 1, 1, none), (13, .iadd, 1, none), (14, .sipush 365, 3, none), (17, .imul, 1, none), (18, .if_icmp .ge 34, 3, none), (21, .iload 5, 2, none), (23, .aload_n 0, 1, none), (24, .getfield 20, 3, none), (27, .iload_n 1, 1, none), (28, .iaload, 1, none), (29, .if_icmp .lt 17, 3, none), (32, .lload_n 3, 1, none), (33, .ldc2_w 127, 3, none), (36, .aload_n 0, 1, none), (37, .getfield 23, 3, none), (40, .iload_n 1, 1, none), (41, .iaload, 1, none), (42, .i2l, 1, none), (43, .lmul, 1, none), (44, .ladd, 1, none), (45, .lstore_n 3, 1, none), (46, .iinc 5 1, 3, none), (49, .goto (-40), 3, none), (52, .iconst 0, 1, none), (53, .istore 5, 2, none), (55, .iload 5, 2, some [0, 1, 2, 3, 5]), (57, .aload_n 0, 1, none), (58, .getfield 129, 3, none), (61, .if_icmp .ge 78, 3, none), (64, .aload_n 0, 1, none), (65, .getfield 44, 3, none), (68, .iload 5, 2, none), (70, .iaload, 1, none), (71, .iload_n 1, 1, none), (72, .if_icmp .ne 61, 3, none), (75, .aload_n 0, 1, none), (76, .getfield 47, 3, none), (79, .iload 5, 2, none), (81, .iaload, 1, none), (82, .ifCond .ne 51, 3, none), (85, .aload_n 0, 1, none), (86, .getfield 59, 3, none), (89, .iload 5, 2, none), (91, .iaload, 1, none), (92, .iconst 3, 1, none), (93, .if_icmp .eq 40, 3, none), (96, .aload_n 0, 1, none), (97, .getfield 50, 3, none), (100, .iload 5, 2, none), (102, .iaload, 1, none), (103, .sipush 365, 3, none), (106, .idiv, 1, none), (107, .iload_n 2, 1, none), (108, .if_icmp .ne 25, 3, none), (111, .lload_n 3, 1, none), (112, .aload_n 0, 1, none), (113, .iload 5, 2, none), (115, .invokevirtual 132, 3, none), (118, .i2l, 1, none), (119, .ldc2_w 136, 3, none), (122, .lmul, 1, none), (123, .aload_n 0, 1, none), (124, .getfield 26, 3, none), (127, .iload_n 1, 1, none), (128, .iaload, 1, none), (129, .i2l, 1, none), (130, .lmul, 1, none), (131, .lsub, 1, none), (132, .lstore_n 3, 1, none), (133, .iinc 5 1, 3, none), (136, .goto (-81), 3, none), (139, .lload_n 3, 1, none), (140, .lreturn, 1, none)]
theorem xd_M_rest : xm_chb xb_M_rest xp_M_rest = true := by decide +kernel
theorem xe_M_rest : Cond.code xy_M_rest xb_M_rest 6 (some .long) ∈ xt_T := xt_in 955 (by decide +kernel) rfl
abbrev xb_M_takes : ByteArray := prog_9_method_11_code
def xy_M_takes : MethodName := ⟨"AbsenceRowsModel", "takes", "(I)I"⟩
def xp_M_takes : xm_P := [(0, .iconst 0, 1, none), (1, .istore_n 2, 1, none), (2, .aload_n 0, 1, none), (3, .getfield 50, 3, none), (6, .iload_n 1, 1, none), (7, .iaload, 1, none), (8, .istore_n 3, 1, none), (9, .iload_n 3, 1, some [0, 1, 2, 3]), (10, .aload_n 0, 1, none), (11, .getfield 53, 3, none), (14, .iload_n 1, 1, none), (15, .iaload, 1, none), (16, .if_icmp .gt 34, 3, none), (19, .aload_n 0, 1, none), (20, .iload_n 3, 1, none), (21, .invokevirtual 120, 3, none), (24, .ifCond .eq 20, 3, none), (27, .iload_n 2, 1, none), (28, .aload_n 0, 1, none), (29, .iload_n 1, 1, none), (30, .iload_n 3, 1, none), (31, .invokevirtual 123, 3, none), (34, .ifCond .eq 7, 3, none), (37, .iconst 1, 1, none), (38, .goto 4, 3, none), (41, .iconst 2, 1, none), (42, .iadd, 1, none), (43, .istore_n 2, 1, none), (44, .iinc 3 1, 3, none), (47, .goto (-38), 3, none), (50, .iload_n 2, 1, none), (51, .ireturn, 1, none)]
theorem xd_M_takes : xm_chb xb_M_takes xp_M_takes = true := by decide +kernel
theorem xe_M_takes : Cond.code xy_M_takes xb_M_takes 4 (some .int) ∈ xt_T := xt_in 960 (by decide +kernel) rfl
abbrev xb_M_isWork : ByteArray := prog_9_method_8_code
def xy_M_isWork : MethodName := ⟨"AbsenceRowsModel", "isWork", "(I)Z"⟩
def xp_M_isWork : xm_P := [(0, .iload_n 1, 1, none), (1, .bipush 7, 2, none), (3, .irem, 1, none), (4, .iconst 5, 1, none), (5, .if_icmp .ge 16, 3, none), (8, .aload_n 0, 1, none), (9, .getfield 7, 3, none), (12, .iload_n 1, 1, none), (13, .baload, 1, none), (14, .ifCond .ne 7, 3, none), (17, .iconst 1, 1, none), (18, .goto 4, 3, none), (21, .iconst 0, 1, none), (22, .ireturn, 1, none)]
theorem xd_M_isWork : xm_chb xb_M_isWork xp_M_isWork = true := by decide +kernel
theorem xe_M_isWork : Cond.code xy_M_isWork xb_M_isWork 2 (some .boolean) ∈ xt_T := xt_in 964 (by decide +kernel) rfl
abbrev xb_M_isHalf : ByteArray := prog_9_method_10_code
def xy_M_isHalf : MethodName := ⟨"AbsenceRowsModel", "isHalf", "(II)Z"⟩
def xp_M_isHalf : xm_P := [(0, .aload_n 0, 1, none), (1, .getfield 56, 3, none), (4, .iload_n 1, 1, none), (5, .iaload, 1, none), (6, .iconst 1, 1, none), (7, .iand, 1, none), (8, .iconst 1, 1, none), (9, .if_icmp .ne 13, 3, none), (12, .iload_n 2, 1, none), (13, .aload_n 0, 1, none), (14, .getfield 50, 3, none), (17, .iload_n 1, 1, none), (18, .iaload, 1, none), (19, .if_icmp .eq 25, 3, none), (22, .aload_n 0, 1, none), (23, .getfield 56, 3, none), (26, .iload_n 1, 1, none), (27, .iaload, 1, none), (28, .iconst 2, 1, none), (29, .iand, 1, none), (30, .iconst 2, 1, none), (31, .if_icmp .ne 17, 3, none), (34, .iload_n 2, 1, none), (35, .aload_n 0, 1, none), (36, .getfield 53, 3, none), (39, .iload_n 1, 1, none), (40, .iaload, 1, none), (41, .if_icmp .ne 7, 3, none), (44, .iconst 1, 1, none), (45, .goto 4, 3, none), (48, .iconst 0, 1, none), (49, .ireturn, 1, none)]
theorem xd_M_isHalf : xm_chb xb_M_isHalf xp_M_isHalf = true := by decide +kernel
theorem xe_M_isHalf : Cond.code xy_M_isHalf xb_M_isHalf 3 (some .boolean) ∈ xt_T := xt_in 968 (by decide +kernel) rfl
abbrev xb_M_whole : ByteArray := prog_9_method_12_code
def xy_M_whole : MethodName := ⟨"AbsenceRowsModel", "whole", "(I)I"⟩
def xp_M_whole : xm_P := [(0, .sipush 730, 3, none), (3, .aload_n 0, 1, none), (4, .getfield 26, 3, none), (7, .iload_n 1, 1, none), (8, .iaload, 1, none), (9, .imul, 1, none), (10, .ireturn, 1, none)]
theorem xd_M_whole : xm_chb xb_M_whole xp_M_whole = true := by decide +kernel
theorem xe_M_whole : Cond.code xy_M_whole xb_M_whole 2 (some .int) ∈ xt_T := xt_in 973 (by decide +kernel) rfl
abbrev xb_M_carry : ByteArray := prog_9_method_17_code
def xy_M_carry : MethodName := ⟨"AbsenceRowsModel", "carry", "(I)V"⟩
def xp_M_carry : xm_P := [(0, .aload_n 0, 1, none), (1, .bipush 6, 2, none), (3, .iconst 1, 1, none), (4, .iload_n 1, 1, none), (5, .iconst 0, 1, none), (6, .bipush 100, 2, none), (8, .invokestatic 102, 3, none), (11, .iload_n 1, 1, none), (12, .aload_n 0, 1, none), (13, .getfield 142, 3, none), (16, .if_icmp .lt 7, 3, none), (19, .iconst 1, 1, none), (20, .goto 4, 3, none), (23, .iconst 0, 1, none), (24, .iconst 1, 1, none), (25, .invokevirtual 116, 3, none), (28, .ifCond .eq 8, 3, none), (31, .aload_n 0, 1, none), (32, .iload_n 1, 1, none), (33, .putfield 142, 3, none), (36, .return_, 1, none)]
theorem xd_M_carry : xm_chb xb_M_carry xp_M_carry = true := by decide +kernel
theorem xe_M_carry : Cond.code xy_M_carry xb_M_carry 2 none ∈ xt_T := xt_in 977 (by decide +kernel) rfl
abbrev xb_M_holiday : ByteArray := prog_9_method_18_code
def xy_M_holiday : MethodName := ⟨"AbsenceRowsModel", "holiday", "(I)V"⟩
def xp_M_holiday : xm_P := [(0, .aload_n 0, 1, none), (1, .bipush 6, 2, none), (3, .iconst 1, 1, none), (4, .iload_n 1, 1, none), (5, .invokestatic 112, 3, none), (8, .iload_n 1, 1, none), (9, .invokestatic 112, 3, none), (12, .ifCond .eq 16, 3, none), (15, .aload_n 0, 1, none), (16, .getfield 7, 3, none), (19, .iload_n 1, 1, none), (20, .baload, 1, none), (21, .ifCond .ne 7, 3, none), (24, .iconst 1, 1, none), (25, .goto 4, 3, none), (28, .iconst 0, 1, none), (29, .iconst 1, 1, none), (30, .invokevirtual 116, 3, none), (33, .ifCond .eq 10, 3, none), (36, .aload_n 0, 1, none), (37, .getfield 7, 3, none), (40, .iload_n 1, 1, none), (41, .iconst 1, 1, none), (42, .bastore, 1, none), (43, .return_, 1, none)]
theorem xd_M_holiday : xm_chb xb_M_holiday xp_M_holiday = true := by decide +kernel
theorem xe_M_holiday : Cond.code xy_M_holiday xb_M_holiday 2 none ∈ xt_T := xt_in 981 (by decide +kernel) rfl
abbrev xb_M_working : ByteArray := prog_9_method_19_code
def xy_M_working : MethodName := ⟨"AbsenceRowsModel", "working", "(II)I"⟩
def xp_M_working : xm_P := [(0, .aload_n 0, 1, none), (1, .iconst 2, 1, none), (2, .iconst 1, 1, none), (3, .iload_n 1, 1, none), (4, .invokestatic 112, 3, none), (7, .ifCond .eq 19, 3, none), (10, .iload_n 2, 1, none), (11, .invokestatic 112, 3, none), (14, .ifCond .eq 12, 3, none), (17, .iload_n 1, 1, none), (18, .iload_n 2, 1, none), (19, .if_icmp .gt 7, 3, none), (22, .iconst 1, 1, none), (23, .goto 4, 3, none), (26, .iconst 0, 1, none), (27, .iconst 1, 1, none), (28, .iconst 1, 1, none), (29, .invokevirtual 116, 3, none), (32, .ifCond .ne 5, 3, none), (35, .iconst 0, 1, none), (36, .ireturn, 1, none), (37, .iconst 0, 1, none), (38, .istore_n 3, 1, none), (39, .iload_n 1, 1, none), (40, .istore 4, 2, none), (42, .iload 4, 2, some [0, 1, 2, 3, 4]), (44, .iload_n 2, 1, none), (45, .if_icmp .gt 21, 3, none), (48, .aload_n 0, 1, none), (49, .iload 4, 2, none), (51, .invokevirtual 120, 3, none), (54, .ifCond .eq 6, 3, none), (57, .iinc 3 1, 3, none), (60, .iinc 4 1, 3, none), (63, .goto (-21), 3, none), (66, .iload_n 3, 1, none), (67, .ireturn, 1, none)]
theorem xd_M_working : xm_chb xb_M_working xp_M_working = true := by decide +kernel
theorem xe_M_working : Cond.code xy_M_working xb_M_working 5 (some .int) ∈ xt_T := xt_in 985 (by decide +kernel) rfl
abbrev xb_M_crew : ByteArray := prog_9_method_20_code
def xy_M_crew : MethodName := ⟨"AbsenceRowsModel", "crew", "(II)I"⟩
def xp_M_crew : xm_P := [(0, .aload_n 0, 1, none), (1, .bipush 10, 2, none), (3, .iconst 1, 1, none), (4, .iload_n 1, 1, none), (5, .iconst 0, 1, none), (6, .sipush 255, 3, none), (9, .invokestatic 102, 3, none), (12, .ifCond .eq 17, 3, none), (15, .iload_n 2, 1, none), (16, .iconst 0, 1, none), (17, .bipush 20, 2, none), (19, .invokestatic 102, 3, none), (22, .ifCond .eq 7, 3, none), (25, .iconst 1, 1, none), (26, .goto 4, 3, none), (29, .iconst 0, 1, none), (30, .iconst 1, 1, none), (31, .aload_n 0, 1, none), (32, .getfield 109, 3, none), (35, .bipush 6, 2, none), (37, .if_icmp .ge 7, 3, none), (40, .iconst 1, 1, none), (41, .goto 4, 3, none), (44, .iconst 0, 1, none), (45, .invokevirtual 116, 3, none), (48, .ifCond .ne 5, 3, none), (51, .iconst 0, 1, none), (52, .ireturn, 1, none), (53, .aload_n 0, 1, none), (54, .getfield 35, 3, none), (57, .aload_n 0, 1, none), (58, .getfield 109, 3, none), (61, .iload_n 1, 1, none), (62, .iastore, 1, none), (63, .aload_n 0, 1, none), (64, .getfield 38, 3, none), (67, .aload_n 0, 1, none), (68, .getfield 109, 3, none), (71, .iload_n 2, 1, none), (72, .iastore, 1, none), (73, .aload_n 0, 1, none), (74, .dup, 1, none), (75, .getfield 109, 3, none), (78, .iconst 1, 1, none), (79, .iadd, 1, none), (80, .putfield 109, 3, none), (83, .aload_n 0, 1, none), (84, .getfield 109, 3, none), (87, .iconst 1, 1, none), (88, .isub, 1, none), (89, .ireturn, 1, none)]
theorem xd_M_crew : xm_chb xb_M_crew xp_M_crew = true := by decide +kernel
theorem xe_M_crew : Cond.code xy_M_crew xb_M_crew 3 (some .int) ∈ xt_T := xt_in 989 (by decide +kernel) rfl
abbrev xb_M_member : ByteArray := prog_9_method_21_code
def xy_M_member : MethodName := ⟨"AbsenceRowsModel", "member", "(IIZ)I"⟩
def xp_M_member : xm_P := [(0, .aload_n 0, 1, none), (1, .iload_n 1, 1, none), (2, .invokevirtual 157, 3, none), (5, .ifCond .eq 15, 3, none), (8, .aload_n 0, 1, none), (9, .iload_n 2, 1, none), (10, .invokevirtual 151, 3, none), (13, .ifCond .eq 7, 3, none), (16, .iconst 1, 1, none), (17, .goto 4, 3, none), (20, .iconst 0, 1, none), (21, .istore 4, 2, none), (23, .aload_n 0, 1, none), (24, .iconst 5, 1, none), (25, .iload 4, 2, none), (27, .iconst 1, 1, none), (28, .iload 4, 2, none), (30, .ifCond .eq 22, 3, none), (33, .aload_n 0, 1, none), (34, .getfield 41, 3, none), (37, .iload_n 1, 1, none), (38, .bipush 20, 2, none), (40, .imul, 1, none), (41, .iload_n 2, 1, none), (42, .iadd, 1, none), (43, .baload, 1, none), (44, .iload_n 3, 1, none), (45, .if_icmp .eq 7, 3, none), (48, .iconst 1, 1, none), (49, .goto 4, 3, none), (52, .iconst 0, 1, none), (53, .iconst 1, 1, none), (54, .invokevirtual 116, 3, none), (57, .ifCond .ne 5, 3, none), (60, .iconst 0, 1, none), (61, .ireturn, 1, none), (62, .aload_n 0, 1, none), (63, .getfield 41, 3, none), (66, .iload_n 1, 1, none), (67, .bipush 20, 2, none), (69, .imul, 1, none), (70, .iload_n 2, 1, none), (71, .iadd, 1, none), (72, .iload_n 3, 1, none), (73, .bastore, 1, none), (74, .iconst 0, 1, none), (75, .istore 5, 2, none), (77, .iconst 0, 1, none), (78, .istore 6, 2, none), (80, .iload 6, 2, some [0, 1, 2, 3, 4, 5, 6]), (82, .aload_n 0, 1, none), (83, .getfield 106, 3, none), (86, .if_icmp .ge 27, 3, none), (89, .aload_n 0, 1, none), (90, .getfield 41, 3, none), (93, .iload_n 1, 1, none), (94, .bipush 20, 2, none), (96, .imul, 1, none), (97, .iload 6, 2, none), (99, .iadd, 1, none), (100, .baload, 1, none), (101, .ifCond .eq 6, 3, none), (104, .iinc 5 1, 3, none), (107, .iinc 6 1, 3, none), (110, .goto (-30), 3, none), (113, .iload 5, 2, none), (115, .ireturn, 1, none)]
theorem xd_M_member : xm_chb xb_M_member xp_M_member = true := by decide +kernel
theorem xe_M_member : Cond.code xy_M_member xb_M_member 7 (some .int) ∈ xt_T := xt_in 993 (by decide +kernel) rfl
abbrev xb_M_isCrew : ByteArray := prog_9_method_7_code
def xy_M_isCrew : MethodName := ⟨"AbsenceRowsModel", "isCrew", "(I)Z"⟩
def xp_M_isCrew : xm_P := [(0, .iload_n 1, 1, none), (1, .iconst 0, 1, none), (2, .aload_n 0, 1, none), (3, .getfield 109, 3, none), (6, .iconst 1, 1, none), (7, .isub, 1, none), (8, .invokestatic 102, 3, none), (11, .ireturn, 1, none)]
theorem xd_M_isCrew : xm_chb xb_M_isCrew xp_M_isCrew = true := by decide +kernel
theorem xe_M_isCrew : Cond.code xy_M_isCrew xb_M_isCrew 2 (some .boolean) ∈ xt_T := xt_in 997 (by decide +kernel) rfl
abbrev xb_M_absent : ByteArray := prog_9_method_26_code
def xy_M_absent : MethodName := ⟨"AbsenceRowsModel", "absent", "(II)Z"⟩
def xp_M_absent : xm_P := [(0, .aload_n 0, 1, none), (1, .iconst 3, 1, none), (2, .aload_n 0, 1, none), (3, .iload_n 1, 1, none), (4, .invokevirtual 151, 3, none), (7, .iload_n 2, 1, none), (8, .invokestatic 112, 3, none), (11, .iconst 1, 1, none), (12, .iconst 1, 1, none), (13, .invokevirtual 116, 3, none), (16, .ifCond .eq 16, 3, none), (19, .aload_n 0, 1, none), (20, .iload_n 1, 1, none), (21, .iload_n 2, 1, none), (22, .invokevirtual 163, 3, none), (25, .ifCond .eq 7, 3, none), (28, .iconst 1, 1, none), (29, .goto 4, 3, none), (32, .iconst 0, 1, none), (33, .ireturn, 1, none)]
theorem xd_M_absent : xm_chb xb_M_absent xp_M_absent = true := by decide +kernel
theorem xe_M_absent : Cond.code xy_M_absent xb_M_absent 3 (some .boolean) ∈ xt_T := xt_in 1001 (by decide +kernel) rfl
abbrev xb_M_isAbsent : ByteArray := prog_9_method_22_code
def xy_M_isAbsent : MethodName := ⟨"AbsenceRowsModel", "isAbsent", "(II)Z"⟩
def xp_M_isAbsent : xm_P := [(0, .iconst 0, 1, none), (1, .istore_n 3, 1, none), (2, .iload_n 3, 1, some [0, 1, 2, 3]), (3, .aload_n 0, 1, none), (4, .getfield 129, 3, none), (7, .if_icmp .ge 59, 3, none), (10, .aload_n 0, 1, none), (11, .getfield 44, 3, none), (14, .iload_n 3, 1, none), (15, .iaload, 1, none), (16, .iload_n 1, 1, none), (17, .if_icmp .ne 43, 3, none), (20, .aload_n 0, 1, none), (21, .getfield 59, 3, none), (24, .iload_n 3, 1, none), (25, .iaload, 1, none), (26, .iconst 2, 1, none), (27, .if_icmp .ne 33, 3, none), (30, .iload_n 2, 1, none), (31, .aload_n 0, 1, none), (32, .getfield 50, 3, none), (35, .iload_n 3, 1, none), (36, .iaload, 1, none), (37, .aload_n 0, 1, none), (38, .getfield 53, 3, none), (41, .iload_n 3, 1, none), (42, .iaload, 1, none), (43, .invokestatic 102, 3, none), (46, .ifCond .eq 14, 3, none), (49, .aload_n 0, 1, none), (50, .iload_n 3, 1, none), (51, .iload_n 2, 1, none), (52, .invokevirtual 123, 3, none), (55, .ifCond .ne 5, 3, none), (58, .iconst 1, 1, none), (59, .ireturn, 1, none), (60, .iinc 3 1, 3, none), (63, .goto (-61), 3, none), (66, .iconst 0, 1, none), (67, .ireturn, 1, none)]
theorem xd_M_isAbsent : xm_chb xb_M_isAbsent xp_M_isAbsent = true := by decide +kernel
theorem xe_M_isAbsent : Cond.code xy_M_isAbsent xb_M_isAbsent 4 (some .boolean) ∈ xt_T := xt_in 1005 (by decide +kernel) rfl
abbrev xb_M_present : ByteArray := prog_9_method_27_code
def xy_M_present : MethodName := ⟨"AbsenceRowsModel", "present", "(II)I"⟩
def xp_M_present : xm_P := [(0, .aload_n 0, 1, none), (1, .iconst 3, 1, none), (2, .aload_n 0, 1, none), (3, .iload_n 1, 1, none), (4, .invokevirtual 157, 3, none), (7, .iload_n 2, 1, none), (8, .invokestatic 112, 3, none), (11, .iconst 1, 1, none), (12, .iconst 1, 1, none), (13, .invokevirtual 116, 3, none), (16, .ifCond .ne 5, 3, none), (19, .iconst 0, 1, none), (20, .ireturn, 1, none), (21, .aload_n 0, 1, none), (22, .iload_n 1, 1, none), (23, .iload_n 2, 1, none), (24, .invokevirtual 172, 3, none), (27, .ireturn, 1, none)]
theorem xd_M_present : xm_chb xb_M_present xp_M_present = true := by decide +kernel
theorem xe_M_present : Cond.code xy_M_present xb_M_present 3 (some .int) ∈ xt_T := xt_in 1009 (by decide +kernel) rfl
abbrev xb_M_count : ByteArray := prog_9_method_25_code
def xy_M_count : MethodName := ⟨"AbsenceRowsModel", "count", "(II)I"⟩
def xp_M_count : xm_P := [(0, .iconst 0, 1, none), (1, .istore_n 3, 1, none), (2, .iconst 0, 1, none), (3, .istore 4, 2, none), (5, .iload 4, 2, some [0, 1, 2, 3, 4]), (7, .aload_n 0, 1, none), (8, .getfield 106, 3, none), (11, .if_icmp .ge 23, 3, none), (14, .aload_n 0, 1, none), (15, .iload_n 1, 1, none), (16, .iload 4, 2, none), (18, .iload_n 2, 1, none), (19, .invokevirtual 169, 3, none), (22, .ifCond .eq 6, 3, none), (25, .iinc 3 1, 3, none), (28, .iinc 4 1, 3, none), (31, .goto (-26), 3, none), (34, .iload_n 3, 1, none), (35, .ireturn, 1, none)]
theorem xd_M_count : xm_chb xb_M_count xp_M_count = true := by decide +kernel
theorem xe_M_count : Cond.code xy_M_count xb_M_count 5 (some .int) ∈ xt_T := xt_in 1013 (by decide +kernel) rfl
abbrev xb_M_isPresent : ByteArray := prog_9_method_24_code
def xy_M_isPresent : MethodName := ⟨"AbsenceRowsModel", "isPresent", "(III)Z"⟩
def xp_M_isPresent : xm_P := [(0, .aload_n 0, 1, none), (1, .getfield 41, 3, none), (4, .iload_n 1, 1, none), (5, .bipush 20, 2, none), (7, .imul, 1, none), (8, .iload_n 2, 1, none), (9, .iadd, 1, none), (10, .baload, 1, none), (11, .ifCond .eq 22, 3, none), (14, .aload_n 0, 1, none), (15, .getfield 20, 3, none), (18, .iload_n 2, 1, none), (19, .iaload, 1, none), (20, .iload_n 3, 1, none), (21, .if_icmp .gt 12, 3, none), (24, .aload_n 0, 1, none), (25, .iload_n 2, 1, none), (26, .iload_n 3, 1, none), (27, .invokevirtual 163, 3, none), (30, .ifCond .eq 13, 3, none), (33, .aload_n 0, 1, none), (34, .iload_n 1, 1, none), (35, .iload_n 2, 1, none), (36, .iload_n 3, 1, none), (37, .invokevirtual 166, 3, none), (40, .ifCond .eq 7, 3, none), (43, .iconst 1, 1, none), (44, .goto 4, 3, none), (47, .iconst 0, 1, none), (48, .ireturn, 1, none)]
theorem xd_M_isPresent : xm_chb xb_M_isPresent xp_M_isPresent = true := by decide +kernel
theorem xe_M_isPresent : Cond.code xy_M_isPresent xb_M_isPresent 4 (some .boolean) ∈ xt_T := xt_in 1017 (by decide +kernel) rfl
abbrev xb_M_comes : ByteArray := prog_9_method_23_code
def xy_M_comes : MethodName := ⟨"AbsenceRowsModel", "comes", "(III)Z"⟩
def xp_M_comes : xm_P := [(0, .iconst 0, 1, none), (1, .istore 4, 2, none), (3, .iload 4, 2, some [0, 1, 2, 3, 4]), (5, .aload_n 0, 1, none), (6, .getfield 160, 3, none), (9, .if_icmp .ge 55, 3, none), (12, .aload_n 0, 1, none), (13, .getfield 74, 3, none), (16, .iload 4, 2, none), (18, .iaload, 1, none), (19, .iload_n 1, 1, none), (20, .if_icmp .ne 38, 3, none), (23, .aload_n 0, 1, none), (24, .getfield 77, 3, none), (27, .iload 4, 2, none), (29, .iaload, 1, none), (30, .iload_n 3, 1, none), (31, .if_icmp .ne 27, 3, none), (34, .aload_n 0, 1, none), (35, .getfield 80, 3, none), (38, .iload 4, 2, none), (40, .iaload, 1, none), (41, .iconst 1, 1, none), (42, .if_icmp .ne 16, 3, none), (45, .aload_n 0, 1, none), (46, .getfield 83, 3, none), (49, .iload 4, 2, none), (51, .iaload, 1, none), (52, .iload_n 2, 1, none), (53, .if_icmp .ne 5, 3, none), (56, .iconst 1, 1, none), (57, .ireturn, 1, none), (58, .iinc 4 1, 3, none), (61, .goto (-58), 3, none), (64, .iconst 0, 1, none), (65, .ireturn, 1, none)]
theorem xd_M_comes : xm_chb xb_M_comes xp_M_comes = true := by decide +kernel
theorem xe_M_comes : Cond.code xy_M_comes xb_M_comes 5 (some .boolean) ∈ xt_T := xt_in 1021 (by decide +kernel) rfl
abbrev xb_M_ask : ByteArray := prog_9_method_28_code
def xy_M_ask : MethodName := ⟨"AbsenceRowsModel", "ask", "(IIIII)I"⟩
def xp_M_ask : xm_P := [(0, .aload_n 0, 1, none), (1, .iload_n 1, 1, none), (2, .invokevirtual 151, 3, none), (5, .ifCond .eq 16, 3, none), (8, .iload_n 2, 1, none), (9, .iconst 0, 1, none), (10, .iconst 2, 1, none), (11, .invokestatic 102, 3, none), (14, .ifCond .eq 7, 3, none), (17, .iconst 1, 1, none), (18, .goto 4, 3, none), (21, .iconst 0, 1, none), (22, .istore 6, 2, none), (24, .iload_n 3, 1, none), (25, .invokestatic 112, 3, none), (28, .ifCond .eq 57, 3, none), (31, .iload 4, 2, none), (33, .invokestatic 112, 3, none), (36, .ifCond .eq 49, 3, none), (39, .iload_n 3, 1, none), (40, .iload 4, 2, none), (42, .if_icmp .gt 43, 3, none), (45, .iload_n 3, 1, none), (46, .sipush 365, 3, none), (49, .idiv, 1, none), (50, .iload 4, 2, none), (52, .sipush 365, 3, none), (55, .idiv, 1, none), (56, .if_icmp .ne 29, 3, none), (59, .iload 5, 2, none), (61, .iconst 0, 1, none), (62, .iconst 3, 1, none), (63, .invokestatic 102, 3, none), (66, .ifCond .eq 19, 3, none), (69, .iload_n 3, 1, none), (70, .iload 4, 2, none), (72, .if_icmp .lt 9, 3, none), (75, .iload 5, 2, none), (77, .iconst 3, 1, none), (78, .if_icmp .ge 7, 3, none), (81, .iconst 1, 1, none), (82, .goto 4, 3, none), (85, .iconst 0, 1, none), (86, .istore 7, 2, none), (88, .iload 6, 2, none), (90, .ifCond .eq 12, 3, none), (93, .iload 7, 2, none), (95, .ifCond .eq 7, 3, none), (98, .iconst 1, 1, none), (99, .goto 4, 3, none), (102, .iconst 0, 1, none), (103, .istore 8, 2, none), (105, .iconst 0, 1, none), (106, .istore 9, 2, none), (108, .iload 9, 2, some [0, 1, 2, 3, 4, 5, 6, 7, 8, 9]), (110, .aload_n 0, 1, none), (111, .getfield 129, 3, none), (114, .if_icmp .ge 62, 3, none), (117, .iload 8, 2, none), (119, .ifCond .eq 57, 3, none), (122, .aload_n 0, 1, none), (123, .getfield 44, 3, none), (126, .iload 9, 2, none), (128, .iaload, 1, none), (129, .iload_n 1, 1, none), (130, .if_icmp .ne 40, 3, none), (133, .aload_n 0, 1, none), (134, .getfield 59, 3, none), (137, .iload 9, 2, none), (139, .iaload, 1, none), (140, .iconst 3, 1, none), (141, .if_icmp .eq 29, 3, none), (144, .iload_n 3, 1, none), (145, .aload_n 0, 1, none), (146, .getfield 53, 3, none), (149, .iload 9, 2, none), (151, .iaload, 1, none), (152, .if_icmp .gt 18, 3, none), (155, .aload_n 0, 1, none), (156, .getfield 50, 3, none), (159, .iload 9, 2, none), (161, .iaload, 1, none), (162, .iload 4, 2, none), (164, .if_icmp .gt 6, 3, none), (167, .iconst 0, 1, none), (168, .istore 8, 2, none), (170, .iinc 9 1, 3, none), (173, .goto (-65), 3, none), (176, .iload 8, 2, none), (178, .ifCond .eq 35, 3, none), (181, .iload_n 2, 1, none), (182, .ifCond .ne 31, 3, none), (185, .aload_n 0, 1, none), (186, .iload_n 1, 1, none), (187, .iload_n 2, 1, none), (188, .iload_n 3, 1, none), (189, .iload 4, 2, none), (191, .iload 5, 2, none), (193, .invokevirtual 176, 3, none), (196, .aload_n 0, 1, none), (197, .iload_n 1, 1, none), (198, .invokevirtual 154, 3, none), (201, .istore 8, 2, none), (203, .aload_n 0, 1, none), (204, .dup, 1, none), (205, .getfield 129, 3, none), (208, .iconst 1, 1, none), (209, .isub, 1, none), (210, .putfield 129, 3, none), (213, .aload_n 0, 1, none), (214, .bipush 15, 2, none), (216, .iload 6, 2, none), (218, .iload 7, 2, none), (220, .iload 8, 2, none), (222, .aload_n 0, 1, none), (223, .getfield 129, 3, none), (226, .bipush 80, 2, none), (228, .if_icmp .ge 7, 3, none), (231, .iconst 1, 1, none), (232, .goto 4, 3, none), (235, .iconst 0, 1, none), (236, .invokevirtual 116, 3, none), (239, .ifCond .ne 5, 3, none), (242, .iconst 0, 1, none), (243, .ireturn, 1, none), (244, .aload_n 0, 1, none), (245, .iload_n 1, 1, none), (246, .iload_n 2, 1, none), (247, .iload_n 3, 1, none), (248, .iload 4, 2, none), (250, .iload 5, 2, none), (252, .invokevirtual 176, 3, none), (255, .aload_n 0, 1, none), (256, .getfield 129, 3, none), (259, .iconst 1, 1, none), (260, .isub, 1, none), (261, .ireturn, 1, none)]
theorem xd_M_ask : xm_chb xb_M_ask xp_M_ask = true := by decide +kernel
theorem xe_M_ask : Cond.code xy_M_ask xb_M_ask 10 (some .int) ∈ xt_T := xt_in 1025 (by decide +kernel) rfl
abbrev xb_M_put : ByteArray := prog_9_method_29_code
def xy_M_put : MethodName := ⟨"AbsenceRowsModel", "put", "(IIIII)V"⟩
def xp_M_put : xm_P := [(0, .aload_n 0, 1, none), (1, .getfield 44, 3, none), (4, .aload_n 0, 1, none), (5, .getfield 129, 3, none), (8, .iload_n 1, 1, none), (9, .iastore, 1, none), (10, .aload_n 0, 1, none), (11, .getfield 47, 3, none), (14, .aload_n 0, 1, none), (15, .getfield 129, 3, none), (18, .iload_n 2, 1, none), (19, .iastore, 1, none), (20, .aload_n 0, 1, none), (21, .getfield 50, 3, none), (24, .aload_n 0, 1, none), (25, .getfield 129, 3, none), (28, .iload_n 3, 1, none), (29, .iastore, 1, none), (30, .aload_n 0, 1, none), (31, .getfield 53, 3, none), (34, .aload_n 0, 1, none), (35, .getfield 129, 3, none), (38, .iload 4, 2, none), (40, .iastore, 1, none), (41, .aload_n 0, 1, none), (42, .getfield 56, 3, none), (45, .aload_n 0, 1, none), (46, .getfield 129, 3, none), (49, .iload 5, 2, none), (51, .iastore, 1, none), (52, .aload_n 0, 1, none), (53, .getfield 59, 3, none), (56, .aload_n 0, 1, none), (57, .getfield 129, 3, none), (60, .iload_n 2, 1, none), (61, .iconst 1, 1, none), (62, .if_icmp .ne 7, 3, none), (65, .iconst 2, 1, none), (66, .goto 4, 3, none), (69, .iconst 0, 1, none), (70, .iastore, 1, none), (71, .aload_n 0, 1, none), (72, .getfield 62, 3, none), (75, .aload_n 0, 1, none), (76, .getfield 129, 3, none), (79, .iconst (-1), 1, none), (80, .iastore, 1, none), (81, .aload_n 0, 1, none), (82, .dup, 1, none), (83, .getfield 129, 3, none), (86, .iconst 1, 1, none), (87, .iadd, 1, none), (88, .putfield 129, 3, none), (91, .return_, 1, none)]
theorem xd_M_put : xm_chb xb_M_put xp_M_put = true := by decide +kernel
theorem xe_M_put : Cond.code xy_M_put xb_M_put 6 none ∈ xt_T := xt_in 1029 (by decide +kernel) rfl
abbrev xb_M_grant : ByteArray := prog_9_method_32_code
def xy_M_grant : MethodName := ⟨"AbsenceRowsModel", "grant", "(II)I"⟩
def xp_M_grant : xm_P := [(0, .aload_n 0, 1, none), (1, .iload_n 1, 1, none), (2, .invokevirtual 180, 3, none), (5, .ifCond .eq 15, 3, none), (8, .aload_n 0, 1, none), (9, .iload_n 2, 1, none), (10, .invokevirtual 151, 3, none), (13, .ifCond .eq 7, 3, none), (16, .iconst 1, 1, none), (17, .goto 4, 3, none), (20, .iconst 0, 1, none), (21, .istore_n 3, 1, none), (22, .iload_n 3, 1, none), (23, .ifCond .eq 47, 3, none), (26, .aload_n 0, 1, none), (27, .getfield 59, 3, none), (30, .iload_n 1, 1, none), (31, .iaload, 1, none), (32, .iconst 2, 1, none), (33, .if_icmp .ge 37, 3, none), (36, .aload_n 0, 1, none), (37, .getfield 17, 3, none), (40, .iload_n 2, 1, none), (41, .iaload, 1, none), (42, .aload_n 0, 1, none), (43, .getfield 17, 3, none), (46, .aload_n 0, 1, none), (47, .getfield 44, 3, none), (50, .iload_n 1, 1, none), (51, .iaload, 1, none), (52, .iaload, 1, none), (53, .if_icmp .le 17, 3, none), (56, .aload_n 0, 1, none), (57, .getfield 62, 3, none), (60, .iload_n 1, 1, none), (61, .iaload, 1, none), (62, .iload_n 2, 1, none), (63, .if_icmp .eq 7, 3, none), (66, .iconst 1, 1, none), (67, .goto 4, 3, none), (70, .iconst 0, 1, none), (71, .istore 4, 2, none), (73, .aload_n 0, 1, none), (74, .iconst 5, 1, none), (75, .iload_n 3, 1, none), (76, .iconst 1, 1, none), (77, .iload 4, 2, none), (79, .iconst 1, 1, none), (80, .invokevirtual 116, 3, none), (83, .ifCond .ne 5, 3, none), (86, .iconst 0, 1, none), (87, .ireturn, 1, none), (88, .aload_n 0, 1, none), (89, .getfield 47, 3, none), (92, .iload_n 1, 1, none), (93, .iaload, 1, none), (94, .ifCond .ne 28, 3, none), (97, .aload_n 0, 1, none), (98, .getfield 59, 3, none), (101, .iload_n 1, 1, none), (102, .iaload, 1, none), (103, .ifCond .ne 19, 3, none), (106, .aload_n 0, 1, none), (107, .getfield 59, 3, none), (110, .iload_n 1, 1, none), (111, .iconst 1, 1, none), (112, .iastore, 1, none), (113, .aload_n 0, 1, none), (114, .getfield 62, 3, none), (117, .iload_n 1, 1, none), (118, .iload_n 2, 1, none), (119, .iastore, 1, none), (120, .iconst 1, 1, none), (121, .ireturn, 1, none), (122, .aload_n 0, 1, none), (123, .iload_n 1, 1, none), (124, .invokevirtual 183, 3, none), (127, .istore 5, 2, none), (129, .iload 5, 2, none), (131, .ifCond .lt 62, 3, none), (134, .aload_n 0, 1, none), (135, .getfield 186, 3, none), (138, .bipush 100, 2, none), (140, .if_icmp .ge 51, 3, none), (143, .aload_n 0, 1, none), (144, .getfield 65, 3, none), (147, .aload_n 0, 1, none), (148, .getfield 186, 3, none), (151, .iload_n 1, 1, none), (152, .iastore, 1, none), (153, .aload_n 0, 1, none), (154, .getfield 68, 3, none), (157, .aload_n 0, 1, none), (158, .getfield 186, 3, none), (161, .iload 5, 2, none), (163, .bipush 100, 2, none), (165, .idiv, 1, none), (166, .iastore, 1, none), (167, .aload_n 0, 1, none), (168, .getfield 71, 3, none), (171, .aload_n 0, 1, none), (172, .getfield 186, 3, none), (175, .iload 5, 2, none), (177, .bipush 100, 2, none), (179, .irem, 1, none), (180, .iastore, 1, none), (181, .aload_n 0, 1, none), (182, .dup, 1, none), (183, .getfield 186, 3, none), (186, .iconst 1, 1, none), (187, .iadd, 1, none), (188, .putfield 186, 3, none), (191, .iconst 0, 1, none), (192, .ireturn, 1, none), (193, .aload_n 0, 1, none), (194, .getfield 59, 3, none), (197, .iload_n 1, 1, none), (198, .iaload, 1, none), (199, .ifCond .ne 10, 3, none), (202, .aload_n 0, 1, none), (203, .getfield 62, 3, none), (206, .iload_n 1, 1, none), (207, .iload_n 2, 1, none), (208, .iastore, 1, none), (209, .aload_n 0, 1, none), (210, .getfield 59, 3, none), (213, .iload_n 1, 1, none), (214, .iconst 2, 1, none), (215, .iastore, 1, none), (216, .iconst 2, 1, none), (217, .ireturn, 1, none)]
theorem xd_M_grant : xm_chb xb_M_grant xp_M_grant = true := by decide +kernel
theorem xe_M_grant : Cond.code xy_M_grant xb_M_grant 6 (some .int) ∈ xt_T := xt_in 1033 (by decide +kernel) rfl
abbrev xb_M_isAsk : ByteArray := prog_9_method_30_code
def xy_M_isAsk : MethodName := ⟨"AbsenceRowsModel", "isAsk", "(I)Z"⟩
def xp_M_isAsk : xm_P := [(0, .iload_n 1, 1, none), (1, .iconst 0, 1, none), (2, .aload_n 0, 1, none), (3, .getfield 129, 3, none), (6, .iconst 1, 1, none), (7, .isub, 1, none), (8, .invokestatic 102, 3, none), (11, .ireturn, 1, none)]
theorem xd_M_isAsk : xm_chb xb_M_isAsk xp_M_isAsk = true := by decide +kernel
theorem xe_M_isAsk : Cond.code xy_M_isAsk xb_M_isAsk 2 (some .boolean) ∈ xt_T := xt_in 1037 (by decide +kernel) rfl
abbrev xb_M_shortage : ByteArray := prog_9_method_31_code
def xy_M_shortage : MethodName := ⟨"AbsenceRowsModel", "shortage", "(I)I"⟩
def xp_M_shortage : xm_P := [(0, .aload_n 0, 1, none), (1, .getfield 50, 3, none), (4, .iload_n 1, 1, none), (5, .iaload, 1, none), (6, .istore_n 2, 1, none), (7, .iload_n 2, 1, some [0, 1, 2]), (8, .aload_n 0, 1, none), (9, .getfield 53, 3, none), (12, .iload_n 1, 1, none), (13, .iaload, 1, none), (14, .if_icmp .gt 99, 3, none), (17, .aload_n 0, 1, none), (18, .iload_n 2, 1, none), (19, .invokevirtual 120, 3, none), (22, .ifCond .eq 85, 3, none), (25, .aload_n 0, 1, none), (26, .iload_n 1, 1, none), (27, .iload_n 2, 1, none), (28, .invokevirtual 123, 3, none), (31, .ifCond .eq 6, 3, none), (34, .goto 73, 3, none), (37, .iconst 0, 1, none), (38, .istore_n 3, 1, none), (39, .iload_n 3, 1, some [0, 1, 2, 3]), (40, .aload_n 0, 1, none), (41, .getfield 109, 3, none), (44, .if_icmp .ge 63, 3, none), (47, .aload_n 0, 1, none), (48, .iload_n 3, 1, none), (49, .aload_n 0, 1, none), (50, .getfield 44, 3, none), (53, .iload_n 1, 1, none), (54, .iaload, 1, none), (55, .iload_n 2, 1, none), (56, .invokevirtual 169, 3, none), (59, .ifCond .eq 42, 3, none), (62, .aload_n 0, 1, none), (63, .iload_n 3, 1, none), (64, .aload_n 0, 1, none), (65, .getfield 44, 3, none), (68, .iload_n 1, 1, none), (69, .iaload, 1, none), (70, .iload_n 2, 1, none), (71, .invokevirtual 166, 3, none), (74, .ifCond .ne 27, 3, none), (77, .aload_n 0, 1, none), (78, .iload_n 3, 1, none), (79, .iload_n 2, 1, none), (80, .invokevirtual 172, 3, none), (83, .iconst 1, 1, none), (84, .isub, 1, none), (85, .aload_n 0, 1, none), (86, .getfield 38, 3, none), (89, .iload_n 3, 1, none), (90, .iaload, 1, none), (91, .if_icmp .ge 10, 3, none), (94, .bipush 100, 2, none), (96, .iload_n 2, 1, none), (97, .imul, 1, none), (98, .iload_n 3, 1, none), (99, .iadd, 1, none), (100, .ireturn, 1, none), (101, .iinc 3 1, 3, none), (104, .goto (-65), 3, none), (107, .iinc 2 1, 3, none), (110, .goto (-103), 3, none), (113, .iconst (-1), 1, none), (114, .ireturn, 1, none)]
theorem xd_M_shortage : xm_chb xb_M_shortage xp_M_shortage = true := by decide +kernel
theorem xe_M_shortage : Cond.code xy_M_shortage xb_M_shortage 4 (some .int) ∈ xt_T := xt_in 1041 (by decide +kernel) rfl
abbrev xb_M_withdraw : ByteArray := prog_9_method_33_code
def xy_M_withdraw : MethodName := ⟨"AbsenceRowsModel", "withdraw", "(I)I"⟩
def xp_M_withdraw : xm_P := [(0, .aload_n 0, 1, none), (1, .iconst 5, 1, none), (2, .aload_n 0, 1, none), (3, .iload_n 1, 1, none), (4, .invokevirtual 180, 3, none), (7, .iconst 1, 1, none), (8, .aload_n 0, 1, none), (9, .iload_n 1, 1, none), (10, .invokevirtual 180, 3, none), (13, .ifCond .eq 17, 3, none), (16, .aload_n 0, 1, none), (17, .getfield 59, 3, none), (20, .iload_n 1, 1, none), (21, .iaload, 1, none), (22, .iconst 3, 1, none), (23, .if_icmp .eq 7, 3, none), (26, .iconst 1, 1, none), (27, .goto 4, 3, none), (30, .iconst 0, 1, none), (31, .iconst 1, 1, none), (32, .invokevirtual 116, 3, none), (35, .ifCond .ne 5, 3, none), (38, .iconst 0, 1, none), (39, .ireturn, 1, none), (40, .aload_n 0, 1, none), (41, .getfield 59, 3, none), (44, .iload_n 1, 1, none), (45, .iconst 3, 1, none), (46, .iastore, 1, none), (47, .aload_n 0, 1, none), (48, .iload_n 1, 1, none), (49, .invokevirtual 132, 3, none), (52, .ireturn, 1, none)]
theorem xd_M_withdraw : xm_chb xb_M_withdraw xp_M_withdraw = true := by decide +kernel
theorem xe_M_withdraw : Cond.code xy_M_withdraw xb_M_withdraw 2 (some .int) ∈ xt_T := xt_in 1045 (by decide +kernel) rfl
abbrev xb_M_askAt : ByteArray := prog_9_method_34_code
def xy_M_askAt : MethodName := ⟨"AbsenceRowsModel", "askAt", "(II)I"⟩
def xp_M_askAt : xm_P := [(0, .aload_n 0, 1, none), (1, .iconst 1, 1, none), (2, .aload_n 0, 1, none), (3, .iload_n 1, 1, none), (4, .invokevirtual 180, 3, none), (7, .ifCond .eq 16, 3, none), (10, .iload_n 2, 1, none), (11, .iconst 0, 1, none), (12, .iconst 4, 1, none), (13, .invokestatic 102, 3, none), (16, .ifCond .eq 7, 3, none), (19, .iconst 1, 1, none), (20, .goto 4, 3, none), (23, .iconst 0, 1, none), (24, .iconst 1, 1, none), (25, .iconst 1, 1, none), (26, .iconst 1, 1, none), (27, .invokevirtual 116, 3, none), (30, .ifCond .ne 5, 3, none), (33, .iconst 0, 1, none), (34, .ireturn, 1, none), (35, .iload_n 2, 1, none), (36, .ifCond .ne 12, 3, none), (39, .aload_n 0, 1, none), (40, .getfield 59, 3, none), (43, .iload_n 1, 1, none), (44, .iaload, 1, none), (45, .goto 50, 3, none), (48, .iload_n 2, 1, none), (49, .iconst 1, 1, none), (50, .if_icmp .ne 11, 3, none), (53, .aload_n 0, 1, none), (54, .iload_n 1, 1, none), (55, .invokevirtual 132, 3, none), (58, .goto 37, 3, none), (61, .iload_n 2, 1, none), (62, .iconst 2, 1, none), (63, .if_icmp .ne 12, 3, none), (66, .aload_n 0, 1, none), (67, .getfield 62, 3, none), (70, .iload_n 1, 1, none), (71, .iaload, 1, none), (72, .goto 23, 3, none), (75, .iload_n 2, 1, none), (76, .iconst 3, 1, none), (77, .if_icmp .ne 12, 3, none), (80, .aload_n 0, 1, none), (81, .getfield 44, 3, none), (84, .iload_n 1, 1, none), (85, .iaload, 1, none), (86, .goto 9, 3, none), (89, .aload_n 0, 1, none), (90, .getfield 47, 3, none), (93, .iload_n 1, 1, none), (94, .iaload, 1, none), (95, .ireturn, 1, none)]
theorem xd_M_askAt : xm_chb xb_M_askAt xp_M_askAt = true := by decide +kernel
theorem xe_M_askAt : Cond.code xy_M_askAt xb_M_askAt 3 (some .int) ∈ xt_T := xt_in 1049 (by decide +kernel) rfl
abbrev xb_M_left : ByteArray := prog_9_method_35_code
def xy_M_left : MethodName := ⟨"AbsenceRowsModel", "left", "(III)I"⟩
def xp_M_left : xm_P := [(0, .aload_n 0, 1, none), (1, .iconst 1, 1, none), (2, .aload_n 0, 1, none), (3, .iload_n 1, 1, none), (4, .invokevirtual 151, 3, none), (7, .ifCond .eq 25, 3, none), (10, .iload_n 2, 1, none), (11, .iconst 0, 1, none), (12, .iconst 1, 1, none), (13, .invokestatic 102, 3, none), (16, .ifCond .eq 16, 3, none), (19, .iload_n 3, 1, none), (20, .iconst 0, 1, none), (21, .iconst 1, 1, none), (22, .invokestatic 102, 3, none), (25, .ifCond .eq 7, 3, none), (28, .iconst 1, 1, none), (29, .goto 4, 3, none), (32, .iconst 0, 1, none), (33, .iconst 1, 1, none), (34, .iconst 1, 1, none), (35, .iconst 1, 1, none), (36, .invokevirtual 116, 3, none), (39, .ifCond .ne 5, 3, none), (42, .iconst 0, 1, none), (43, .ireturn, 1, none), (44, .aload_n 0, 1, none), (45, .iload_n 1, 1, none), (46, .iload_n 2, 1, none), (47, .invokevirtual 148, 3, none), (50, .lstore 4, 2, none), (52, .lload 4, 2, none), (54, .lconst 0, 1, none), (55, .lcmp, 1, none), (56, .ifCond .ge 9, 3, none), (59, .lload 4, 2, none), (61, .lneg, 1, none), (62, .goto 5, 3, none), (65, .lload 4, 2, none), (67, .lstore 6, 2, none), (69, .aload_n 0, 1, none), (70, .iload_n 1, 1, none), (71, .invokevirtual 145, 3, none), (74, .i2l, 1, none), (75, .lstore 8, 2, none), (77, .lload 6, 2, some [0, 1, 2, 3, 4, 6, 8]), (79, .lconst 0, 1, none), (80, .lcmp, 1, none), (81, .ifCond .le 21, 3, none), (84, .lload 8, 2, none), (86, .lload 6, 2, none), (88, .lrem, 1, none), (89, .lstore 10, 2, none), (91, .lload 6, 2, none), (93, .lstore 8, 2, none), (95, .lload 10, 2, none), (97, .lstore 6, 2, none), (99, .goto (-22), 3, none), (102, .iload_n 3, 1, none), (103, .ifCond .ne 8, 3, none), (106, .lload 4, 2, none), (108, .goto 9, 3, none), (111, .aload_n 0, 1, none), (112, .iload_n 1, 1, none), (113, .invokevirtual 145, 3, none), (116, .i2l, 1, none), (117, .lload 8, 2, none), (119, .ldiv, 1, none), (120, .l2i, 1, none), (121, .ireturn, 1, none)]
theorem xd_M_left : xm_chb xb_M_left xp_M_left = true := by decide +kernel
theorem xe_M_left : Cond.code xy_M_left xb_M_left 12 (some .int) ∈ xt_T := xt_in 1053 (by decide +kernel) rfl
abbrev xb_M_held : ByteArray := prog_9_method_36_code
def xy_M_held : MethodName := ⟨"AbsenceRowsModel", "held", "(II)I"⟩
def xp_M_held : xm_P := [(0, .aload_n 0, 1, none), (1, .iconst 1, 1, none), (2, .iload_n 1, 1, none), (3, .iconst 0, 1, none), (4, .aload_n 0, 1, none), (5, .getfield 186, 3, none), (8, .iconst 1, 1, none), (9, .isub, 1, none), (10, .invokestatic 102, 3, none), (13, .ifCond .eq 16, 3, none), (16, .iload_n 2, 1, none), (17, .iconst 0, 1, none), (18, .iconst 2, 1, none), (19, .invokestatic 102, 3, none), (22, .ifCond .eq 7, 3, none), (25, .iconst 1, 1, none), (26, .goto 4, 3, none), (29, .iconst 0, 1, none), (30, .iconst 1, 1, none), (31, .iconst 1, 1, none), (32, .iconst 1, 1, none), (33, .invokevirtual 116, 3, none), (36, .ifCond .ne 5, 3, none), (39, .iconst 0, 1, none), (40, .ireturn, 1, none), (41, .iload_n 2, 1, none), (42, .ifCond .ne 12, 3, none), (45, .aload_n 0, 1, none), (46, .getfield 65, 3, none), (49, .iload_n 1, 1, none), (50, .iaload, 1, none), (51, .goto 23, 3, none), (54, .iload_n 2, 1, none), (55, .iconst 1, 1, none), (56, .if_icmp .ne 12, 3, none), (59, .aload_n 0, 1, none), (60, .getfield 68, 3, none), (63, .iload_n 1, 1, none), (64, .iaload, 1, none), (65, .goto 9, 3, none), (68, .aload_n 0, 1, none), (69, .getfield 71, 3, none), (72, .iload_n 1, 1, none), (73, .iaload, 1, none), (74, .ireturn, 1, none)]
theorem xd_M_held : xm_chb xb_M_held xp_M_held = true := by decide +kernel
theorem xe_M_held : Cond.code xy_M_held xb_M_held 3 (some .int) ∈ xt_T := xt_in 1057 (by decide +kernel) rfl
abbrev xb_M_bar : ByteArray := prog_9_method_37_code
def xy_M_bar : MethodName := ⟨"AbsenceRowsModel", "bar", "(III)V"⟩
def xp_M_bar : xm_P := [(0, .aload_n 0, 1, none), (1, .iconst 3, 1, none), (2, .aload_n 0, 1, none), (3, .iload_n 1, 1, none), (4, .invokevirtual 151, 3, none), (7, .ifCond .eq 17, 3, none), (10, .iload_n 2, 1, none), (11, .iconst 0, 1, none), (12, .bipush 7, 2, none), (14, .invokestatic 102, 3, none), (17, .ifCond .eq 7, 3, none), (20, .iconst 1, 1, none), (21, .goto 4, 3, none), (24, .iconst 0, 1, none), (25, .iload_n 3, 1, none), (26, .invokestatic 112, 3, none), (29, .iconst 1, 1, none), (30, .iconst 1, 1, none), (31, .invokevirtual 116, 3, none), (34, .ifCond .eq 15, 3, none), (37, .aload_n 0, 1, none), (38, .getfield 32, 3, none), (41, .bipush 8, 2, none), (43, .iload_n 1, 1, none), (44, .imul, 1, none), (45, .iload_n 2, 1, none), (46, .iadd, 1, none), (47, .iload_n 3, 1, none), (48, .iastore, 1, none), (49, .return_, 1, none)]
theorem xd_M_bar : xm_chb xb_M_bar xp_M_bar = true := by decide +kernel
theorem xe_M_bar : Cond.code xy_M_bar xb_M_bar 4 none ∈ xt_T := xt_in 1061 (by decide +kernel) rfl
abbrev xb_M_patience : ByteArray := prog_9_method_38_code
def xy_M_patience : MethodName := ⟨"AbsenceRowsModel", "patience", "(I)V"⟩
def xp_M_patience : xm_P := [(0, .aload_n 0, 1, none), (1, .iconst 2, 1, none), (2, .iconst 1, 1, none), (3, .iload_n 1, 1, none), (4, .iconst 1, 1, none), (5, .bipush 48, 2, none), (7, .invokestatic 102, 3, none), (10, .iconst 1, 1, none), (11, .iconst 1, 1, none), (12, .invokevirtual 116, 3, none), (15, .ifCond .eq 8, 3, none), (18, .aload_n 0, 1, none), (19, .iload_n 1, 1, none), (20, .putfield 95, 3, none), (23, .return_, 1, none)]
theorem xd_M_patience : xm_chb xb_M_patience xp_M_patience = true := by decide +kernel
theorem xe_M_patience : Cond.code xy_M_patience xb_M_patience 2 none ∈ xt_T := xt_in 1065 (by decide +kernel) rfl
abbrev xb_M_call : ByteArray := prog_9_method_42_code
def xy_M_call : MethodName := ⟨"AbsenceRowsModel", "call", "(II)I"⟩
def xp_M_call : xm_P := [(0, .aload_n 0, 1, none), (1, .bipush 11, 2, none), (3, .aload_n 0, 1, none), (4, .iload_n 1, 1, none), (5, .invokevirtual 157, 3, none), (8, .iload_n 2, 1, none), (9, .invokestatic 112, 3, none), (12, .ifCond .eq 18, 3, none), (15, .iload_n 2, 1, none), (16, .aload_n 0, 1, none), (17, .getfield 195, 3, none), (20, .bipush 24, 2, none), (22, .idiv, 1, none), (23, .if_icmp .lt 7, 3, none), (26, .iconst 1, 1, none), (27, .goto 4, 3, none), (30, .iconst 0, 1, none), (31, .iconst 1, 1, none), (32, .aload_n 0, 1, none), (33, .getfield 160, 3, none), (36, .bipush 60, 2, none), (38, .if_icmp .ge 7, 3, none), (41, .iconst 1, 1, none), (42, .goto 4, 3, none), (45, .iconst 0, 1, none), (46, .invokevirtual 116, 3, none), (49, .ifCond .ne 5, 3, none), (52, .iconst 0, 1, none), (53, .ireturn, 1, none), (54, .aload_n 0, 1, none), (55, .getfield 74, 3, none), (58, .aload_n 0, 1, none), (59, .getfield 160, 3, none), (62, .iload_n 1, 1, none), (63, .iastore, 1, none), (64, .aload_n 0, 1, none), (65, .getfield 77, 3, none), (68, .aload_n 0, 1, none), (69, .getfield 160, 3, none), (72, .iload_n 2, 1, none), (73, .iastore, 1, none), (74, .aload_n 0, 1, none), (75, .getfield 83, 3, none), (78, .aload_n 0, 1, none), (79, .getfield 160, 3, none), (82, .iconst (-1), 1, none), (83, .iastore, 1, none), (84, .aload_n 0, 1, none), (85, .dup, 1, none), (86, .getfield 160, 3, none), (89, .iconst 1, 1, none), (90, .iadd, 1, none), (91, .putfield 160, 3, none), (94, .aload_n 0, 1, none), (95, .aload_n 0, 1, none), (96, .getfield 160, 3, none), (99, .iconst 1, 1, none), (100, .isub, 1, none), (101, .invokevirtual 198, 3, none), (104, .aload_n 0, 1, none), (105, .getfield 160, 3, none), (108, .iconst 1, 1, none), (109, .isub, 1, none), (110, .ireturn, 1, none)]
theorem xd_M_call : xm_chb xb_M_call xp_M_call = true := by decide +kernel
theorem xe_M_call : Cond.code xy_M_call xb_M_call 3 (some .int) ∈ xt_T := xt_in 1069 (by decide +kernel) rfl
abbrev xb_M_asksNext : ByteArray := prog_9_method_41_code
def xy_M_asksNext : MethodName := ⟨"AbsenceRowsModel", "asksNext", "(I)V"⟩
def xp_M_asksNext : xm_P := [(0, .aload_n 0, 1, none), (1, .getfield 77, 3, none), (4, .iload_n 1, 1, none), (5, .iaload, 1, none), (6, .istore_n 2, 1, none), (7, .iconst (-1), 1, none), (8, .istore_n 3, 1, none), (9, .iconst 0, 1, none), (10, .istore 4, 2, none), (12, .iload 4, 2, some [0, 1, 2, 3, 4]), (14, .aload_n 0, 1, none), (15, .getfield 106, 3, none), (18, .if_icmp .ge 154, 3, none), (21, .aload_n 0, 1, none), (22, .getfield 20, 3, none), (25, .iload 4, 2, none), (27, .iaload, 1, none), (28, .iload_n 2, 1, none), (29, .if_icmp .gt 137, 3, none), (32, .aload_n 0, 1, none), (33, .getfield 41, 3, none), (36, .aload_n 0, 1, none), (37, .getfield 74, 3, none), (40, .iload_n 1, 1, none), (41, .iaload, 1, none), (42, .bipush 20, 2, none), (44, .imul, 1, none), (45, .iload 4, 2, none), (47, .iadd, 1, none), (48, .baload, 1, none), (49, .ifCond .ne 117, 3, none), (52, .aload_n 0, 1, none), (53, .iload 4, 2, none), (55, .iload_n 2, 1, none), (56, .invokevirtual 163, 3, none), (59, .ifCond .ne 107, 3, none), (62, .aload_n 0, 1, none), (63, .iload 4, 2, none), (65, .aload_n 0, 1, none), (66, .getfield 35, 3, none), (69, .aload_n 0, 1, none), (70, .getfield 74, 3, none), (73, .iload_n 1, 1, none), (74, .iaload, 1, none), (75, .iaload, 1, none), (76, .iload_n 2, 1, none), (77, .invokevirtual 189, 3, none), (80, .ifCond .eq 86, 3, none), (83, .aload_n 0, 1, none), (84, .getfield 92, 3, none), (87, .iload_n 1, 1, none), (88, .bipush 20, 2, none), (90, .imul, 1, none), (91, .iload 4, 2, none), (93, .iadd, 1, none), (94, .baload, 1, none), (95, .ifCond .ne 71, 3, none), (98, .aload_n 0, 1, none), (99, .iload 4, 2, none), (101, .iload_n 1, 1, none), (102, .invokevirtual 192, 3, none), (105, .ifCond .ne 6, 3, none), (108, .goto 58, 3, none), (111, .iload_n 3, 1, none), (112, .ifCond .lt 51, 3, none), (115, .aload_n 0, 1, none), (116, .getfield 17, 3, none), (119, .iload 4, 2, none), (121, .iaload, 1, none), (122, .aload_n 0, 1, none), (123, .getfield 17, 3, none), (126, .iload_n 3, 1, none), (127, .iaload, 1, none), (128, .if_icmp .gt 35, 3, none), (131, .aload_n 0, 1, none), (132, .getfield 17, 3, none), (135, .iload 4, 2, none), (137, .iaload, 1, none), (138, .aload_n 0, 1, none), (139, .getfield 17, 3, none), (142, .iload_n 3, 1, none), (143, .iaload, 1, none), (144, .if_icmp .ne 22, 3, none), (147, .aload_n 0, 1, none), (148, .getfield 29, 3, none), (151, .iload 4, 2, none), (153, .iaload, 1, none), (154, .aload_n 0, 1, none), (155, .getfield 29, 3, none), (158, .iload_n 3, 1, none), (159, .iaload, 1, none), (160, .if_icmp .ge 6, 3, none), (163, .iload 4, 2, none), (165, .istore_n 3, 1, none), (166, .iinc 4 1, 3, none), (169, .goto (-157), 3, none), (172, .aload_n 0, 1, none), (173, .getfield 83, 3, none), (176, .iload_n 1, 1, none), (177, .iload_n 3, 1, none), (178, .iastore, 1, none), (179, .aload_n 0, 1, none), (180, .getfield 80, 3, none), (183, .iload_n 1, 1, none), (184, .iload_n 3, 1, none), (185, .ifCond .ge 7, 3, none), (188, .iconst 2, 1, none), (189, .goto 4, 3, none), (192, .iconst 0, 1, none), (193, .iastore, 1, none), (194, .aload_n 0, 1, none), (195, .getfield 89, 3, none), (198, .iload_n 1, 1, none), (199, .iload_n 3, 1, none), (200, .ifCond .ge 7, 3, none), (203, .iconst (-1), 1, none), (204, .goto 12, 3, none), (207, .aload_n 0, 1, none), (208, .getfield 195, 3, none), (211, .aload_n 0, 1, none), (212, .getfield 95, 3, none), (215, .iadd, 1, none), (216, .iastore, 1, none), (217, .iload_n 3, 1, none), (218, .ifCond .ge 4, 3, none), (221, .return_, 1, none), (222, .aload_n 0, 1, none), (223, .getfield 92, 3, none), (226, .iload_n 1, 1, none), (227, .bipush 20, 2, none), (229, .imul, 1, none), (230, .iload_n 3, 1, none), (231, .iadd, 1, none), (232, .iconst 1, 1, none), (233, .bastore, 1, none), (234, .aload_n 0, 1, none), (235, .getfield 86, 3, none), (238, .iload_n 1, 1, none), (239, .dup2, 1, none), (240, .iaload, 1, none), (241, .iconst 1, 1, none), (242, .iadd, 1, none), (243, .iastore, 1, none), (244, .aload_n 0, 1, none), (245, .getfield 29, 3, none), (248, .iload_n 3, 1, none), (249, .dup2, 1, none), (250, .iaload, 1, none), (251, .iconst 1, 1, none), (252, .iadd, 1, none), (253, .iastore, 1, none), (254, .return_, 1, none)]
theorem xd_M_asksNext : xm_chb xb_M_asksNext xp_M_asksNext = true := by decide +kernel
theorem xe_M_asksNext : Cond.code xy_M_asksNext xb_M_asksNext 5 none ∈ xt_T := xt_in 1073 (by decide +kernel) rfl
abbrev xb_M_hasSkills : ByteArray := prog_9_method_39_code
def xy_M_hasSkills : MethodName := ⟨"AbsenceRowsModel", "hasSkills", "(III)Z"⟩
def xp_M_hasSkills : xm_P := [(0, .iconst 0, 1, none), (1, .istore 4, 2, none), (3, .iload 4, 2, some [0, 1, 2, 3, 4]), (5, .bipush 8, 2, none), (7, .if_icmp .ge 51, 3, none), (10, .iload_n 2, 1, none), (11, .iload 4, 2, none), (13, .ishr, 1, none), (14, .iconst 1, 1, none), (15, .iand, 1, none), (16, .iconst 1, 1, none), (17, .if_icmp .ne 35, 3, none), (20, .aload_n 0, 1, none), (21, .getfield 13, 3, none), (24, .iload_n 1, 1, none), (25, .iaload, 1, none), (26, .iload 4, 2, none), (28, .ishr, 1, none), (29, .iconst 1, 1, none), (30, .iand, 1, none), (31, .ifCond .eq 19, 3, none), (34, .iload_n 3, 1, none), (35, .aload_n 0, 1, none), (36, .getfield 32, 3, none), (39, .bipush 8, 2, none), (41, .iload_n 1, 1, none), (42, .imul, 1, none), (43, .iload 4, 2, none), (45, .iadd, 1, none), (46, .iaload, 1, none), (47, .if_icmp .ge 5, 3, none), (50, .iconst 0, 1, none), (51, .ireturn, 1, none), (52, .iinc 4 1, 3, none), (55, .goto (-52), 3, none), (58, .iconst 1, 1, none), (59, .ireturn, 1, none)]
theorem xd_M_hasSkills : xm_chb xb_M_hasSkills xp_M_hasSkills = true := by decide +kernel
theorem xe_M_hasSkills : Cond.code xy_M_hasSkills xb_M_hasSkills 5 (some .boolean) ∈ xt_T := xt_in 1077 (by decide +kernel) rfl
abbrev xb_M_isFree : ByteArray := prog_9_method_40_code
def xy_M_isFree : MethodName := ⟨"AbsenceRowsModel", "isFree", "(II)Z"⟩
def xp_M_isFree : xm_P := [(0, .iconst 0, 1, none), (1, .istore_n 3, 1, none), (2, .iload_n 3, 1, some [0, 1, 2, 3]), (3, .aload_n 0, 1, none), (4, .getfield 160, 3, none), (7, .if_icmp .ge 51, 3, none), (10, .iload_n 3, 1, none), (11, .iload_n 2, 1, none), (12, .if_icmp .eq 40, 3, none), (15, .aload_n 0, 1, none), (16, .getfield 77, 3, none), (19, .iload_n 3, 1, none), (20, .iaload, 1, none), (21, .aload_n 0, 1, none), (22, .getfield 77, 3, none), (25, .iload_n 2, 1, none), (26, .iaload, 1, none), (27, .if_icmp .ne 25, 3, none), (30, .aload_n 0, 1, none), (31, .getfield 80, 3, none), (34, .iload_n 3, 1, none), (35, .iaload, 1, none), (36, .iconst 2, 1, none), (37, .if_icmp .eq 15, 3, none), (40, .aload_n 0, 1, none), (41, .getfield 83, 3, none), (44, .iload_n 3, 1, none), (45, .iaload, 1, none), (46, .iload_n 1, 1, none), (47, .if_icmp .ne 5, 3, none), (50, .iconst 0, 1, none), (51, .ireturn, 1, none), (52, .iinc 3 1, 3, none), (55, .goto (-53), 3, none), (58, .iconst 1, 1, none), (59, .ireturn, 1, none)]
theorem xd_M_isFree : xm_chb xb_M_isFree xp_M_isFree = true := by decide +kernel
theorem xe_M_isFree : Cond.code xy_M_isFree xb_M_isFree 4 (some .boolean) ∈ xt_T := xt_in 1081 (by decide +kernel) rfl
abbrev xb_M_answer : ByteArray := prog_9_method_44_code
def xy_M_answer : MethodName := ⟨"AbsenceRowsModel", "answer", "(IZ)I"⟩
def xp_M_answer : xm_P := [(0, .aload_n 0, 1, none), (1, .iconst 5, 1, none), (2, .aload_n 0, 1, none), (3, .iload_n 1, 1, none), (4, .invokevirtual 202, 3, none), (7, .iconst 1, 1, none), (8, .aload_n 0, 1, none), (9, .iload_n 1, 1, none), (10, .invokevirtual 202, 3, none), (13, .ifCond .eq 16, 3, none), (16, .aload_n 0, 1, none), (17, .getfield 80, 3, none), (20, .iload_n 1, 1, none), (21, .iaload, 1, none), (22, .ifCond .ne 7, 3, none), (25, .iconst 1, 1, none), (26, .goto 4, 3, none), (29, .iconst 0, 1, none), (30, .iconst 1, 1, none), (31, .invokevirtual 116, 3, none), (34, .ifCond .ne 5, 3, none), (37, .iconst 0, 1, none), (38, .ireturn, 1, none), (39, .iload_n 2, 1, none), (40, .ifCond .eq 20, 3, none), (43, .aload_n 0, 1, none), (44, .getfield 80, 3, none), (47, .iload_n 1, 1, none), (48, .iconst 1, 1, none), (49, .iastore, 1, none), (50, .aload_n 0, 1, none), (51, .getfield 89, 3, none), (54, .iload_n 1, 1, none), (55, .iconst (-1), 1, none), (56, .iastore, 1, none), (57, .goto 8, 3, none), (60, .aload_n 0, 1, none), (61, .iload_n 1, 1, none), (62, .invokevirtual 198, 3, none), (65, .aload_n 0, 1, none), (66, .getfield 80, 3, none), (69, .iload_n 1, 1, none), (70, .iaload, 1, none), (71, .ireturn, 1, none)]
theorem xd_M_answer : xm_chb xb_M_answer xp_M_answer = true := by decide +kernel
theorem xe_M_answer : Cond.code xy_M_answer xb_M_answer 3 (some .int) ∈ xt_T := xt_in 1085 (by decide +kernel) rfl
abbrev xb_M_isCall : ByteArray := prog_9_method_43_code
def xy_M_isCall : MethodName := ⟨"AbsenceRowsModel", "isCall", "(I)Z"⟩
def xp_M_isCall : xm_P := [(0, .iload_n 1, 1, none), (1, .iconst 0, 1, none), (2, .aload_n 0, 1, none), (3, .getfield 160, 3, none), (6, .iconst 1, 1, none), (7, .isub, 1, none), (8, .invokestatic 102, 3, none), (11, .ireturn, 1, none)]
theorem xd_M_isCall : xm_chb xb_M_isCall xp_M_isCall = true := by decide +kernel
theorem xe_M_isCall : Cond.code xy_M_isCall xb_M_isCall 2 (some .boolean) ∈ xt_T := xt_in 1089 (by decide +kernel) rfl
abbrev xb_M_callAt : ByteArray := prog_9_method_45_code
def xy_M_callAt : MethodName := ⟨"AbsenceRowsModel", "callAt", "(II)I"⟩
def xp_M_callAt : xm_P := [(0, .aload_n 0, 1, none), (1, .iconst 1, 1, none), (2, .aload_n 0, 1, none), (3, .iload_n 1, 1, none), (4, .invokevirtual 202, 3, none), (7, .ifCond .eq 16, 3, none), (10, .iload_n 2, 1, none), (11, .iconst 0, 1, none), (12, .iconst 3, 1, none), (13, .invokestatic 102, 3, none), (16, .ifCond .eq 7, 3, none), (19, .iconst 1, 1, none), (20, .goto 4, 3, none), (23, .iconst 0, 1, none), (24, .iconst 1, 1, none), (25, .iconst 1, 1, none), (26, .iconst 1, 1, none), (27, .invokevirtual 116, 3, none), (30, .ifCond .ne 5, 3, none), (33, .iconst 0, 1, none), (34, .ireturn, 1, none), (35, .iload_n 2, 1, none), (36, .ifCond .ne 12, 3, none), (39, .aload_n 0, 1, none), (40, .getfield 80, 3, none), (43, .iload_n 1, 1, none), (44, .iaload, 1, none), (45, .goto 37, 3, none), (48, .iload_n 2, 1, none), (49, .iconst 1, 1, none), (50, .if_icmp .ne 12, 3, none), (53, .aload_n 0, 1, none), (54, .getfield 83, 3, none), (57, .iload_n 1, 1, none), (58, .iaload, 1, none), (59, .goto 23, 3, none), (62, .iload_n 2, 1, none), (63, .iconst 2, 1, none), (64, .if_icmp .ne 12, 3, none), (67, .aload_n 0, 1, none), (68, .getfield 86, 3, none), (71, .iload_n 1, 1, none), (72, .iaload, 1, none), (73, .goto 9, 3, none), (76, .aload_n 0, 1, none), (77, .getfield 89, 3, none), (80, .iload_n 1, 1, none), (81, .iaload, 1, none), (82, .ireturn, 1, none)]
theorem xd_M_callAt : xm_chb xb_M_callAt xp_M_callAt = true := by decide +kernel
theorem xe_M_callAt : Cond.code xy_M_callAt xb_M_callAt 3 (some .int) ∈ xt_T := xt_in 1093 (by decide +kernel) rfl
abbrev xb_M_asked : ByteArray := prog_9_method_46_code
def xy_M_asked : MethodName := ⟨"AbsenceRowsModel", "asked", "(I)I"⟩
def xp_M_asked : xm_P := [(0, .aload_n 0, 1, none), (1, .iconst 1, 1, none), (2, .aload_n 0, 1, none), (3, .iload_n 1, 1, none), (4, .invokevirtual 151, 3, none), (7, .iconst 1, 1, none), (8, .iconst 1, 1, none), (9, .iconst 1, 1, none), (10, .invokevirtual 116, 3, none), (13, .ifCond .ne 5, 3, none), (16, .iconst 0, 1, none), (17, .ireturn, 1, none), (18, .aload_n 0, 1, none), (19, .getfield 29, 3, none), (22, .iload_n 1, 1, none), (23, .iaload, 1, none), (24, .ireturn, 1, none)]
theorem xd_M_asked : xm_chb xb_M_asked xp_M_asked = true := by decide +kernel
theorem xe_M_asked : Cond.code xy_M_asked xb_M_asked 2 (some .int) ∈ xt_T := xt_in 1097 (by decide +kernel) rfl
abbrev xb_M_tick : ByteArray := prog_9_method_47_code
def xy_M_tick : MethodName := ⟨"AbsenceRowsModel", "tick", "(I)I"⟩
def xp_M_tick : xm_P := [(0, .aload_n 0, 1, none), (1, .iconst 2, 1, none), (2, .iconst 1, 1, none), (3, .iload_n 1, 1, none), (4, .iconst 1, 1, none), (5, .sipush 2000, 3, none), (8, .invokestatic 102, 3, none), (11, .ifCond .eq 19, 3, none), (14, .iload_n 1, 1, none), (15, .sipush 17519, 3, none), (18, .aload_n 0, 1, none), (19, .getfield 195, 3, none), (22, .isub, 1, none), (23, .if_icmp .gt 7, 3, none), (26, .iconst 1, 1, none), (27, .goto 4, 3, none), (30, .iconst 0, 1, none), (31, .iconst 1, 1, none), (32, .iconst 1, 1, none), (33, .invokevirtual 116, 3, none), (36, .ifCond .ne 5, 3, none), (39, .iconst 0, 1, none), (40, .ireturn, 1, none), (41, .iconst 0, 1, none), (42, .istore_n 2, 1, none), (43, .iconst 0, 1, none), (44, .istore_n 3, 1, none), (45, .iload_n 3, 1, some [0, 1, 2, 3]), (46, .iload_n 1, 1, none), (47, .if_icmp .ge 73, 3, none), (50, .aload_n 0, 1, none), (51, .dup, 1, none), (52, .getfield 195, 3, none), (55, .iconst 1, 1, none), (56, .iadd, 1, none), (57, .putfield 195, 3, none), (60, .iconst 0, 1, none), (61, .istore 4, 2, none), (63, .iload 4, 2, some [0, 1, 2, 3, 4]), (65, .aload_n 0, 1, none), (66, .getfield 160, 3, none), (69, .if_icmp .ge 45, 3, none), (72, .aload_n 0, 1, none), (73, .getfield 80, 3, none), (76, .iload 4, 2, none), (78, .iaload, 1, none), (79, .ifCond .ne 29, 3, none), (82, .aload_n 0, 1, none), (83, .getfield 195, 3, none), (86, .aload_n 0, 1, none), (87, .getfield 89, 3, none), (90, .iload 4, 2, none), (92, .iaload, 1, none), (93, .if_icmp .ge 6, 3, none), (96, .goto 12, 3, none), (99, .aload_n 0, 1, none), (100, .iload 4, 2, none), (102, .invokevirtual 198, 3, none), (105, .iinc 2 1, 3, none), (108, .iinc 4 1, 3, none), (111, .goto (-48), 3, none), (114, .iinc 3 1, 3, none), (117, .goto (-72), 3, none), (120, .iload_n 2, 1, none), (121, .ireturn, 1, none)]
theorem xd_M_tick : xm_chb xb_M_tick xp_M_tick = true := by decide +kernel
theorem xe_M_tick : Cond.code xy_M_tick xb_M_tick 5 (some .int) ∈ xt_T := xt_in 1101 (by decide +kernel) rfl
end
section
noncomputable def xi_b (c : Prop) : Int32 := @ite Int32 c (Classical.propDecidable c) 1 0
theorem xi_t {c : Prop} (h : c) : xi_b c = 1 := by simp [xi_b, h]
theorem xi_f {c : Prop} (h : ¬ c) : xi_b c = 0 := by simp [xi_b, h]
theorem xi_0 {c : Prop} : xi_b c = 0 ↔ ¬ c := by
  by_cases h : c
  · rw [xi_t h]; exact ⟨fun z => absurd z (by decide), fun z => absurd h z⟩
  · rw [xi_f h]; exact ⟨fun _ => h, fun _ => rfl⟩
theorem xi_n0 {c : Prop} : ¬ xi_b c = 0 ↔ c := by
  rw [xi_0, Classical.not_not]
theorem xi_nb {c : Prop} : narrow .boolean (.int (xi_b c)) = .int (xi_b c) := by
  by_cases h : c
  · rw [xi_t h]; rfl
  · rw [xi_f h]; rfl
def xr_ (k : Nat) : Room := { frames := k, cells := 0, slots := 0, locals := 30 * k }
/-! words that calls lean on, by their places -/
theorem xw_1 : (Cond.selects "AbsenceRows" ⟨"AbsenceRows", "isEnough", "(IIIII)Z"⟩ ⟨"AbsenceRows", "isEnough", "(IIIII)Z"⟩) ∈ xt_T := xt_in 1 (by decide +kernel) rfl
theorem xw_2 : (Cond.selects "AbsenceRows" ⟨"AbsenceRows", "partsOfYear", "(IIIII)I"⟩ ⟨"AbsenceRows", "partsOfYear", "(IIIII)I"⟩) ∈ xt_T := xt_in 2 (by decide +kernel) rfl
theorem xw_3 : (Cond.selects "AbsenceRows" ⟨"AbsenceRows", "halfDaysOfHoliday", "(II)I"⟩ ⟨"AbsenceRows", "halfDaysOfHoliday", "(II)I"⟩) ∈ xt_T := xt_in 3 (by decide +kernel) rfl
theorem xw_4 : (Cond.selects "AbsenceRows" ⟨"AbsenceRows", "halfDaysOf", "(I)I"⟩ ⟨"AbsenceRows", "halfDaysOf", "(I)I"⟩) ∈ xt_T := xt_in 4 (by decide +kernel) rfl
theorem xw_5 : (Cond.selects "AbsenceRows" ⟨"AbsenceRows", "partsCarried", "(II)I"⟩ ⟨"AbsenceRows", "partsCarried", "(II)I"⟩) ∈ xt_T := xt_in 5 (by decide +kernel) rfl
theorem xw_6 : (Cond.selects "AbsenceRows" ⟨"AbsenceRows", "isEnoughFor", "(IIII)Z"⟩ ⟨"AbsenceRows", "isEnoughFor", "(IIII)Z"⟩) ∈ xt_T := xt_in 6 (by decide +kernel) rfl
theorem xw_7 : (Cond.selects "AbsenceRows" ⟨"AbsenceRows", "isAbove", "(II)Z"⟩ ⟨"AbsenceRows", "isAbove", "(II)Z"⟩) ∈ xt_T := xt_in 7 (by decide +kernel) rfl
theorem xw_8 : (Cond.selects "AbsenceRows" ⟨"AbsenceRows", "firstDayLeftShort", "(I)I"⟩ ⟨"AbsenceRows", "firstDayLeftShort", "(I)I"⟩) ∈ xt_T := xt_in 8 (by decide +kernel) rfl
theorem xw_9 : (Cond.selects "AbsenceRows" ⟨"AbsenceRows", "crewLeftShort", "(II)I"⟩ ⟨"AbsenceRows", "crewLeftShort", "(II)I"⟩) ∈ xt_T := xt_in 9 (by decide +kernel) rfl
theorem xw_10 : (Cond.selects "AbsenceRows" ⟨"AbsenceRows", "atWorkOn", "(I)I"⟩ ⟨"AbsenceRows", "atWorkOn", "(I)I"⟩) ∈ xt_T := xt_in 10 (by decide +kernel) rfl
theorem xw_11 : (Cond.selects "AbsenceRows" ⟨"AbsenceRows", "partsLeft", "(II)I"⟩ ⟨"AbsenceRows", "partsLeft", "(II)I"⟩) ∈ xt_T := xt_in 11 (by decide +kernel) rfl
theorem xw_12 : (Cond.selects "AbsenceRows" ⟨"AbsenceRows", "askNext", "(I)V"⟩ ⟨"AbsenceRows", "askNext", "(I)V"⟩) ∈ xt_T := xt_in 12 (by decide +kernel) rfl
theorem xw_13 : (Cond.selects "AbsenceRows" ⟨"AbsenceRows", "nextToAsk", "(I)I"⟩ ⟨"AbsenceRows", "nextToAsk", "(I)I"⟩) ∈ xt_T := xt_in 13 (by decide +kernel) rfl
theorem xw_14 : (Cond.selects "AbsenceRows" ⟨"AbsenceRows", "goOnWithoutAnswer", "()I"⟩ ⟨"AbsenceRows", "goOnWithoutAnswer", "()I"⟩) ∈ xt_T := xt_in 14 (by decide +kernel) rfl
theorem xw_15 : (Cond.selects "AbsenceRowsModel" ⟨"AbsenceRowsModel", "goes", "(IZZZZ)Z"⟩ ⟨"AbsenceRowsModel", "goes", "(IZZZZ)Z"⟩) ∈ xt_T := xt_in 15 (by decide +kernel) rfl
theorem xw_16 : (Cond.selects "AbsenceRowsModel" ⟨"AbsenceRowsModel", "isPerson", "(I)Z"⟩ ⟨"AbsenceRowsModel", "isPerson", "(I)Z"⟩) ∈ xt_T := xt_in 16 (by decide +kernel) rfl
theorem xw_17 : (Cond.selects "AbsenceRowsModel" ⟨"AbsenceRowsModel", "isEnough", "(I)Z"⟩ ⟨"AbsenceRowsModel", "isEnough", "(I)Z"⟩) ∈ xt_T := xt_in 17 (by decide +kernel) rfl
theorem xw_18 : (Cond.selects "AbsenceRowsModel" ⟨"AbsenceRowsModel", "restOf", "(II)J"⟩ ⟨"AbsenceRowsModel", "restOf", "(II)J"⟩) ∈ xt_T := xt_in 18 (by decide +kernel) rfl
theorem xw_19 : (Cond.selects "AbsenceRowsModel" ⟨"AbsenceRowsModel", "rest", "(II)J"⟩ ⟨"AbsenceRowsModel", "rest", "(II)J"⟩) ∈ xt_T := xt_in 19 (by decide +kernel) rfl
theorem xw_20 : (Cond.selects "AbsenceRowsModel" ⟨"AbsenceRowsModel", "takes", "(I)I"⟩ ⟨"AbsenceRowsModel", "takes", "(I)I"⟩) ∈ xt_T := xt_in 20 (by decide +kernel) rfl
theorem xw_21 : (Cond.selects "AbsenceRowsModel" ⟨"AbsenceRowsModel", "isWork", "(I)Z"⟩ ⟨"AbsenceRowsModel", "isWork", "(I)Z"⟩) ∈ xt_T := xt_in 21 (by decide +kernel) rfl
theorem xw_22 : (Cond.selects "AbsenceRowsModel" ⟨"AbsenceRowsModel", "isHalf", "(II)Z"⟩ ⟨"AbsenceRowsModel", "isHalf", "(II)Z"⟩) ∈ xt_T := xt_in 22 (by decide +kernel) rfl
theorem xw_23 : (Cond.selects "AbsenceRowsModel" ⟨"AbsenceRowsModel", "whole", "(I)I"⟩ ⟨"AbsenceRowsModel", "whole", "(I)I"⟩) ∈ xt_T := xt_in 23 (by decide +kernel) rfl
theorem xw_24 : (Cond.selects "AbsenceRowsModel" ⟨"AbsenceRowsModel", "isCrew", "(I)Z"⟩ ⟨"AbsenceRowsModel", "isCrew", "(I)Z"⟩) ∈ xt_T := xt_in 24 (by decide +kernel) rfl
theorem xw_25 : (Cond.selects "AbsenceRowsModel" ⟨"AbsenceRowsModel", "isAbsent", "(II)Z"⟩ ⟨"AbsenceRowsModel", "isAbsent", "(II)Z"⟩) ∈ xt_T := xt_in 25 (by decide +kernel) rfl
theorem xw_26 : (Cond.selects "AbsenceRowsModel" ⟨"AbsenceRowsModel", "count", "(II)I"⟩ ⟨"AbsenceRowsModel", "count", "(II)I"⟩) ∈ xt_T := xt_in 26 (by decide +kernel) rfl
theorem xw_27 : (Cond.selects "AbsenceRowsModel" ⟨"AbsenceRowsModel", "isPresent", "(III)Z"⟩ ⟨"AbsenceRowsModel", "isPresent", "(III)Z"⟩) ∈ xt_T := xt_in 27 (by decide +kernel) rfl
theorem xw_28 : (Cond.selects "AbsenceRowsModel" ⟨"AbsenceRowsModel", "comes", "(III)Z"⟩ ⟨"AbsenceRowsModel", "comes", "(III)Z"⟩) ∈ xt_T := xt_in 28 (by decide +kernel) rfl
theorem xw_29 : (Cond.selects "AbsenceRowsModel" ⟨"AbsenceRowsModel", "put", "(IIIII)V"⟩ ⟨"AbsenceRowsModel", "put", "(IIIII)V"⟩) ∈ xt_T := xt_in 29 (by decide +kernel) rfl
theorem xw_30 : (Cond.selects "AbsenceRowsModel" ⟨"AbsenceRowsModel", "isAsk", "(I)Z"⟩ ⟨"AbsenceRowsModel", "isAsk", "(I)Z"⟩) ∈ xt_T := xt_in 30 (by decide +kernel) rfl
theorem xw_31 : (Cond.selects "AbsenceRowsModel" ⟨"AbsenceRowsModel", "shortage", "(I)I"⟩ ⟨"AbsenceRowsModel", "shortage", "(I)I"⟩) ∈ xt_T := xt_in 31 (by decide +kernel) rfl
theorem xw_32 : (Cond.selects "AbsenceRowsModel" ⟨"AbsenceRowsModel", "asksNext", "(I)V"⟩ ⟨"AbsenceRowsModel", "asksNext", "(I)V"⟩) ∈ xt_T := xt_in 32 (by decide +kernel) rfl
theorem xw_33 : (Cond.selects "AbsenceRowsModel" ⟨"AbsenceRowsModel", "hasSkills", "(III)Z"⟩ ⟨"AbsenceRowsModel", "hasSkills", "(III)Z"⟩) ∈ xt_T := xt_in 33 (by decide +kernel) rfl
theorem xw_34 : (Cond.selects "AbsenceRowsModel" ⟨"AbsenceRowsModel", "isFree", "(II)Z"⟩ ⟨"AbsenceRowsModel", "isFree", "(II)Z"⟩) ∈ xt_T := xt_in 34 (by decide +kernel) rfl
theorem xw_35 : (Cond.selects "AbsenceRowsModel" ⟨"AbsenceRowsModel", "isCall", "(I)Z"⟩ ⟨"AbsenceRowsModel", "isCall", "(I)Z"⟩) ∈ xt_T := xt_in 35 (by decide +kernel) rfl
theorem xw_37 : (Cond.initialized "AbsenceRows") ∈ xt_T := xt_in 37 (by decide +kernel) rfl
theorem xw_38 : (Cond.initialized "AbsenceRows$Calendar") ∈ xt_T := xt_in 38 (by decide +kernel) rfl
theorem xw_39 : (Cond.initialized "AbsenceRows$Persons") ∈ xt_T := xt_in 39 (by decide +kernel) rfl
theorem xw_40 : (Cond.initialized "AbsenceRows$Crews") ∈ xt_T := xt_in 40 (by decide +kernel) rfl
theorem xw_41 : (Cond.initialized "AbsenceRows$Asks") ∈ xt_T := xt_in 41 (by decide +kernel) rfl
theorem xw_42 : (Cond.initialized "AbsenceRows$HeldRows") ∈ xt_T := xt_in 42 (by decide +kernel) rfl
theorem xw_43 : (Cond.initialized "AbsenceRows$Calls") ∈ xt_T := xt_in 43 (by decide +kernel) rfl
theorem xw_44 : (Cond.initialized "AbsenceRowsModel") ∈ xt_T := xt_in 44 (by decide +kernel) rfl
theorem xw_51 : (Cond.initialized "java/lang/Math") ∈ xt_T := xt_in 51 (by decide +kernel) rfl
theorem xw_53 : (Cond.initialized "java/lang/Integer") ∈ xt_T := xt_in 53 (by decide +kernel) rfl
theorem xw_264 : (Cond.methodLink "AbsenceRowsLaw" 7 ⟨"AbsenceRows", "person", "(III)I"⟩) ∈ xt_T := xt_in 264 (by decide +kernel) rfl
theorem xw_265 : (Cond.instanceMethod ⟨"AbsenceRows", "person", "(III)I"⟩) ∈ xt_T := xt_in 265 (by decide +kernel) rfl
theorem xw_266 : (Cond.selects "AbsenceRows" ⟨"AbsenceRows", "person", "(III)I"⟩ ⟨"AbsenceRows", "person", "(III)I"⟩) ∈ xt_T := xt_in 266 (by decide +kernel) rfl
theorem xw_268 : (Cond.methodLink "AbsenceRows" 61 ⟨"AbsenceRows", "isWithin", "(III)Z"⟩) ∈ xt_T := xt_in 268 (by decide +kernel) rfl
theorem xw_269 : (Cond.static ⟨"AbsenceRows", "isWithin", "(III)Z"⟩) ∈ xt_T := xt_in 269 (by decide +kernel) rfl
theorem xw_271 : (Cond.methodLink "AbsenceRows" 65 ⟨"AbsenceRows", "isDay", "(I)Z"⟩) ∈ xt_T := xt_in 271 (by decide +kernel) rfl
theorem xw_272 : (Cond.static ⟨"AbsenceRows", "isDay", "(I)Z"⟩) ∈ xt_T := xt_in 272 (by decide +kernel) rfl
theorem xw_359 : (Cond.methodLink "AbsenceRows" 84 ⟨"AbsenceRows$Persons", "add", "(III)I"⟩) ∈ xt_T := xt_in 359 (by decide +kernel) rfl
theorem xw_360 : (Cond.instanceMethod ⟨"AbsenceRows$Persons", "add", "(III)I"⟩) ∈ xt_T := xt_in 360 (by decide +kernel) rfl
theorem xw_361 : (Cond.selects "AbsenceRows$Persons" ⟨"AbsenceRows$Persons", "add", "(III)I"⟩ ⟨"AbsenceRows$Persons", "add", "(III)I"⟩) ∈ xt_T := xt_in 361 (by decide +kernel) rfl
theorem xw_368 : (Cond.methodLink "AbsenceRowsLaw" 17 ⟨"AbsenceRows", "budget", "(III)V"⟩) ∈ xt_T := xt_in 368 (by decide +kernel) rfl
theorem xw_369 : (Cond.instanceMethod ⟨"AbsenceRows", "budget", "(III)V"⟩) ∈ xt_T := xt_in 369 (by decide +kernel) rfl
theorem xw_370 : (Cond.selects "AbsenceRows" ⟨"AbsenceRows", "budget", "(III)V"⟩ ⟨"AbsenceRows", "budget", "(III)V"⟩) ∈ xt_T := xt_in 370 (by decide +kernel) rfl
theorem xw_372 : (Cond.methodLink "AbsenceRows" 88 ⟨"AbsenceRows$Persons", "has", "(I)Z"⟩) ∈ xt_T := xt_in 372 (by decide +kernel) rfl
theorem xw_373 : (Cond.instanceMethod ⟨"AbsenceRows$Persons", "has", "(I)Z"⟩) ∈ xt_T := xt_in 373 (by decide +kernel) rfl
theorem xw_374 : (Cond.selects "AbsenceRows$Persons" ⟨"AbsenceRows$Persons", "has", "(I)Z"⟩ ⟨"AbsenceRows$Persons", "has", "(I)Z"⟩) ∈ xt_T := xt_in 374 (by decide +kernel) rfl
theorem xw_394 : (Cond.methodLink "AbsenceRows" 98 ⟨"AbsenceRows", "isEnough", "(IIIII)Z"⟩) ∈ xt_T := xt_in 394 (by decide +kernel) rfl
theorem xw_396 : (Cond.instanceMethod ⟨"AbsenceRows", "isEnough", "(IIIII)Z"⟩) ∈ xt_T := xt_in 396 (by decide +kernel) rfl
theorem xw_398 : (Cond.methodLink "AbsenceRows" 336 ⟨"AbsenceRows", "partsOfYear", "(IIIII)I"⟩) ∈ xt_T := xt_in 398 (by decide +kernel) rfl
theorem xw_400 : (Cond.instanceMethod ⟨"AbsenceRows", "partsOfYear", "(IIIII)I"⟩) ∈ xt_T := xt_in 400 (by decide +kernel) rfl
theorem xw_402 : (Cond.methodLink "AbsenceRows" 319 ⟨"AbsenceRows", "halfDaysOfHoliday", "(II)I"⟩) ∈ xt_T := xt_in 402 (by decide +kernel) rfl
theorem xw_404 : (Cond.instanceMethod ⟨"AbsenceRows", "halfDaysOfHoliday", "(II)I"⟩) ∈ xt_T := xt_in 404 (by decide +kernel) rfl
theorem xw_406 : (Cond.methodLink "AbsenceRows" 354 ⟨"AbsenceRows$Asks", "takesFromBudget", "(I)Z"⟩) ∈ xt_T := xt_in 406 (by decide +kernel) rfl
theorem xw_407 : (Cond.instanceMethod ⟨"AbsenceRows$Asks", "takesFromBudget", "(I)Z"⟩) ∈ xt_T := xt_in 407 (by decide +kernel) rfl
theorem xw_408 : (Cond.selects "AbsenceRows$Asks" ⟨"AbsenceRows$Asks", "takesFromBudget", "(I)Z"⟩ ⟨"AbsenceRows$Asks", "takesFromBudget", "(I)Z"⟩) ∈ xt_T := xt_in 408 (by decide +kernel) rfl
theorem xw_410 : (Cond.methodLink "AbsenceRows" 165 ⟨"AbsenceRows", "yearOf", "(I)I"⟩) ∈ xt_T := xt_in 410 (by decide +kernel) rfl
theorem xw_411 : (Cond.static ⟨"AbsenceRows", "yearOf", "(I)I"⟩) ∈ xt_T := xt_in 411 (by decide +kernel) rfl
theorem xw_413 : (Cond.methodLink "AbsenceRows" 234 ⟨"AbsenceRows", "halfDaysOf", "(I)I"⟩) ∈ xt_T := xt_in 413 (by decide +kernel) rfl
theorem xw_415 : (Cond.instanceMethod ⟨"AbsenceRows", "halfDaysOf", "(I)I"⟩) ∈ xt_T := xt_in 415 (by decide +kernel) rfl
theorem xw_417 : (Cond.methodLink "AbsenceRows" 342 ⟨"AbsenceRows$Calendar", "halfDays", "(III)I"⟩) ∈ xt_T := xt_in 417 (by decide +kernel) rfl
theorem xw_418 : (Cond.instanceMethod ⟨"AbsenceRows$Calendar", "halfDays", "(III)I"⟩) ∈ xt_T := xt_in 418 (by decide +kernel) rfl
theorem xw_419 : (Cond.selects "AbsenceRows$Calendar" ⟨"AbsenceRows$Calendar", "halfDays", "(III)I"⟩ ⟨"AbsenceRows$Calendar", "halfDays", "(III)I"⟩) ∈ xt_T := xt_in 419 (by decide +kernel) rfl
theorem xw_421 : (Cond.methodLink "AbsenceRows$Calendar" 15 ⟨"AbsenceRows$Calendar", "isWorkingDay", "(I)Z"⟩) ∈ xt_T := xt_in 421 (by decide +kernel) rfl
theorem xw_422 : (Cond.instanceMethod ⟨"AbsenceRows$Calendar", "isWorkingDay", "(I)Z"⟩) ∈ xt_T := xt_in 422 (by decide +kernel) rfl
theorem xw_423 : (Cond.selects "AbsenceRows$Calendar" ⟨"AbsenceRows$Calendar", "isWorkingDay", "(I)Z"⟩ ⟨"AbsenceRows$Calendar", "isWorkingDay", "(I)Z"⟩) ∈ xt_T := xt_in 423 (by decide +kernel) rfl
theorem xw_426 : (Cond.static ⟨"AbsenceRows", "isHalf", "(IIII)Z"⟩) ∈ xt_T := xt_in 426 (by decide +kernel) rfl
theorem xw_428 : (Cond.methodLink "AbsenceRows" 322 ⟨"AbsenceRows$Persons", "daysThere", "(II)I"⟩) ∈ xt_T := xt_in 428 (by decide +kernel) rfl
theorem xw_429 : (Cond.instanceMethod ⟨"AbsenceRows$Persons", "daysThere", "(II)I"⟩) ∈ xt_T := xt_in 429 (by decide +kernel) rfl
theorem xw_430 : (Cond.selects "AbsenceRows$Persons" ⟨"AbsenceRows$Persons", "daysThere", "(II)I"⟩ ⟨"AbsenceRows$Persons", "daysThere", "(II)I"⟩) ∈ xt_T := xt_in 430 (by decide +kernel) rfl
theorem xw_432 : (Cond.methodLink "AbsenceRows$Persons" 41 ⟨"java/lang/Math", "min", "(II)I"⟩) ∈ xt_T := xt_in 432 (by decide +kernel) rfl
theorem xw_433 : (Cond.static ⟨"java/lang/Math", "min", "(II)I"⟩) ∈ xt_T := xt_in 433 (by decide +kernel) rfl
theorem xw_435 : (Cond.methodLink "AbsenceRows$Persons" 47 ⟨"java/lang/Math", "max", "(II)I"⟩) ∈ xt_T := xt_in 435 (by decide +kernel) rfl
theorem xw_436 : (Cond.static ⟨"java/lang/Math", "max", "(II)I"⟩) ∈ xt_T := xt_in 436 (by decide +kernel) rfl
theorem xw_438 : (Cond.methodLink "AbsenceRows" 325 ⟨"AbsenceRows", "partsOfHalfDay", "(I)I"⟩) ∈ xt_T := xt_in 438 (by decide +kernel) rfl
theorem xw_439 : (Cond.static ⟨"AbsenceRows", "partsOfHalfDay", "(I)I"⟩) ∈ xt_T := xt_in 439 (by decide +kernel) rfl
theorem xw_441 : (Cond.methodLink "AbsenceRows" 339 ⟨"AbsenceRows", "partsCarried", "(II)I"⟩) ∈ xt_T := xt_in 441 (by decide +kernel) rfl
theorem xw_443 : (Cond.instanceMethod ⟨"AbsenceRows", "partsCarried", "(II)I"⟩) ∈ xt_T := xt_in 443 (by decide +kernel) rfl
theorem xw_445 : (Cond.methodLink "AbsenceRows" 247 ⟨"AbsenceRows", "partsOfDay", "(I)I"⟩) ∈ xt_T := xt_in 445 (by decide +kernel) rfl
theorem xw_446 : (Cond.static ⟨"AbsenceRows", "partsOfDay", "(I)I"⟩) ∈ xt_T := xt_in 446 (by decide +kernel) rfl
theorem xw_448 : (Cond.methodLink "AbsenceRows" 328 ⟨"java/lang/Math", "min", "(II)I"⟩) ∈ xt_T := xt_in 448 (by decide +kernel) rfl
theorem xw_449 : (Cond.methodLink "AbsenceRows" 333 ⟨"java/lang/Math", "max", "(II)I"⟩) ∈ xt_T := xt_in 449 (by decide +kernel) rfl
theorem xw_469 : (Cond.methodLink "AbsenceRowsLaw" 25 ⟨"AbsenceRows", "carry", "(I)V"⟩) ∈ xt_T := xt_in 469 (by decide +kernel) rfl
theorem xw_470 : (Cond.instanceMethod ⟨"AbsenceRows", "carry", "(I)V"⟩) ∈ xt_T := xt_in 470 (by decide +kernel) rfl
theorem xw_471 : (Cond.selects "AbsenceRows" ⟨"AbsenceRows", "carry", "(I)V"⟩ ⟨"AbsenceRows", "carry", "(I)V"⟩) ∈ xt_T := xt_in 471 (by decide +kernel) rfl
theorem xw_478 : (Cond.methodLink "AbsenceRowsLaw" 29 ⟨"AbsenceRows", "holiday", "(I)V"⟩) ∈ xt_T := xt_in 478 (by decide +kernel) rfl
theorem xw_479 : (Cond.instanceMethod ⟨"AbsenceRows", "holiday", "(I)V"⟩) ∈ xt_T := xt_in 479 (by decide +kernel) rfl
theorem xw_480 : (Cond.selects "AbsenceRows" ⟨"AbsenceRows", "holiday", "(I)V"⟩ ⟨"AbsenceRows", "holiday", "(I)V"⟩) ∈ xt_T := xt_in 480 (by decide +kernel) rfl
theorem xw_487 : (Cond.methodLink "AbsenceRowsLaw" 32 ⟨"AbsenceRows", "working", "(II)I"⟩) ∈ xt_T := xt_in 487 (by decide +kernel) rfl
theorem xw_488 : (Cond.instanceMethod ⟨"AbsenceRows", "working", "(II)I"⟩) ∈ xt_T := xt_in 488 (by decide +kernel) rfl
theorem xw_489 : (Cond.selects "AbsenceRows" ⟨"AbsenceRows", "working", "(II)I"⟩ ⟨"AbsenceRows", "working", "(II)I"⟩) ∈ xt_T := xt_in 489 (by decide +kernel) rfl
theorem xw_491 : (Cond.methodLink "AbsenceRows" 126 ⟨"AbsenceRows", "isSpan", "(II)Z"⟩) ∈ xt_T := xt_in 491 (by decide +kernel) rfl
theorem xw_492 : (Cond.static ⟨"AbsenceRows", "isSpan", "(II)Z"⟩) ∈ xt_T := xt_in 492 (by decide +kernel) rfl
theorem xw_495 : (Cond.methodLink "AbsenceRows" 132 ⟨"AbsenceRows$Calendar", "workingDays", "(II)I"⟩) ∈ xt_T := xt_in 495 (by decide +kernel) rfl
theorem xw_496 : (Cond.instanceMethod ⟨"AbsenceRows$Calendar", "workingDays", "(II)I"⟩) ∈ xt_T := xt_in 496 (by decide +kernel) rfl
theorem xw_497 : (Cond.selects "AbsenceRows$Calendar" ⟨"AbsenceRows$Calendar", "workingDays", "(II)I"⟩ ⟨"AbsenceRows$Calendar", "workingDays", "(II)I"⟩) ∈ xt_T := xt_in 497 (by decide +kernel) rfl
theorem xw_502 : (Cond.methodLink "AbsenceRowsLaw" 36 ⟨"AbsenceRows", "crew", "(II)I"⟩) ∈ xt_T := xt_in 502 (by decide +kernel) rfl
theorem xw_503 : (Cond.instanceMethod ⟨"AbsenceRows", "crew", "(II)I"⟩) ∈ xt_T := xt_in 503 (by decide +kernel) rfl
theorem xw_504 : (Cond.selects "AbsenceRows" ⟨"AbsenceRows", "crew", "(II)I"⟩ ⟨"AbsenceRows", "crew", "(II)I"⟩) ∈ xt_T := xt_in 504 (by decide +kernel) rfl
theorem xw_508 : (Cond.methodLink "AbsenceRows" 141 ⟨"AbsenceRows$Crews", "add", "(II)I"⟩) ∈ xt_T := xt_in 508 (by decide +kernel) rfl
theorem xw_509 : (Cond.instanceMethod ⟨"AbsenceRows$Crews", "add", "(II)I"⟩) ∈ xt_T := xt_in 509 (by decide +kernel) rfl
theorem xw_510 : (Cond.selects "AbsenceRows$Crews" ⟨"AbsenceRows$Crews", "add", "(II)I"⟩ ⟨"AbsenceRows$Crews", "add", "(II)I"⟩) ∈ xt_T := xt_in 510 (by decide +kernel) rfl
theorem xw_515 : (Cond.methodLink "AbsenceRowsLaw" 39 ⟨"AbsenceRows", "member", "(IIZ)I"⟩) ∈ xt_T := xt_in 515 (by decide +kernel) rfl
theorem xw_516 : (Cond.instanceMethod ⟨"AbsenceRows", "member", "(IIZ)I"⟩) ∈ xt_T := xt_in 516 (by decide +kernel) rfl
theorem xw_517 : (Cond.selects "AbsenceRows" ⟨"AbsenceRows", "member", "(IIZ)I"⟩ ⟨"AbsenceRows", "member", "(IIZ)I"⟩) ∈ xt_T := xt_in 517 (by decide +kernel) rfl
theorem xw_519 : (Cond.methodLink "AbsenceRows" 143 ⟨"AbsenceRows$Crews", "has", "(I)Z"⟩) ∈ xt_T := xt_in 519 (by decide +kernel) rfl
theorem xw_520 : (Cond.instanceMethod ⟨"AbsenceRows$Crews", "has", "(I)Z"⟩) ∈ xt_T := xt_in 520 (by decide +kernel) rfl
theorem xw_521 : (Cond.selects "AbsenceRows$Crews" ⟨"AbsenceRows$Crews", "has", "(I)Z"⟩ ⟨"AbsenceRows$Crews", "has", "(I)Z"⟩) ∈ xt_T := xt_in 521 (by decide +kernel) rfl
theorem xw_525 : (Cond.methodLink "AbsenceRows" 149 ⟨"AbsenceRows", "holds", "(II)Z"⟩) ∈ xt_T := xt_in 525 (by decide +kernel) rfl
theorem xw_526 : (Cond.static ⟨"AbsenceRows", "holds", "(II)Z"⟩) ∈ xt_T := xt_in 526 (by decide +kernel) rfl
theorem xw_528 : (Cond.methodLink "AbsenceRows" 154 ⟨"AbsenceRows", "only", "(I)I"⟩) ∈ xt_T := xt_in 528 (by decide +kernel) rfl
theorem xw_529 : (Cond.static ⟨"AbsenceRows", "only", "(I)I"⟩) ∈ xt_T := xt_in 529 (by decide +kernel) rfl
theorem xw_532 : (Cond.methodLink "AbsenceRows" 158 ⟨"java/lang/Integer", "bitCount", "(I)I"⟩) ∈ xt_T := xt_in 532 (by decide +kernel) rfl
theorem xw_533 : (Cond.static ⟨"java/lang/Integer", "bitCount", "(I)I"⟩) ∈ xt_T := xt_in 533 (by decide +kernel) rfl
theorem xw_541 : (Cond.methodLink "AbsenceRowsLaw" 43 ⟨"AbsenceRows", "ask", "(IIIII)I"⟩) ∈ xt_T := xt_in 541 (by decide +kernel) rfl
theorem xw_542 : (Cond.instanceMethod ⟨"AbsenceRows", "ask", "(IIIII)I"⟩) ∈ xt_T := xt_in 542 (by decide +kernel) rfl
theorem xw_543 : (Cond.selects "AbsenceRows" ⟨"AbsenceRows", "ask", "(IIIII)I"⟩ ⟨"AbsenceRows", "ask", "(IIIII)I"⟩) ∈ xt_T := xt_in 543 (by decide +kernel) rfl
theorem xw_546 : (Cond.methodLink "AbsenceRows" 168 ⟨"AbsenceRows", "areHalves", "(III)Z"⟩) ∈ xt_T := xt_in 546 (by decide +kernel) rfl
theorem xw_547 : (Cond.static ⟨"AbsenceRows", "areHalves", "(III)Z"⟩) ∈ xt_T := xt_in 547 (by decide +kernel) rfl
theorem xw_550 : (Cond.methodLink "AbsenceRows" 173 ⟨"AbsenceRows$Asks", "overlap", "(III)Z"⟩) ∈ xt_T := xt_in 550 (by decide +kernel) rfl
theorem xw_551 : (Cond.instanceMethod ⟨"AbsenceRows$Asks", "overlap", "(III)Z"⟩) ∈ xt_T := xt_in 551 (by decide +kernel) rfl
theorem xw_552 : (Cond.selects "AbsenceRows$Asks" ⟨"AbsenceRows$Asks", "overlap", "(III)Z"⟩ ⟨"AbsenceRows$Asks", "overlap", "(III)Z"⟩) ∈ xt_T := xt_in 552 (by decide +kernel) rfl
theorem xw_555 : (Cond.methodLink "AbsenceRows" 178 ⟨"AbsenceRows", "isEnoughFor", "(IIII)Z"⟩) ∈ xt_T := xt_in 555 (by decide +kernel) rfl
theorem xw_557 : (Cond.instanceMethod ⟨"AbsenceRows", "isEnoughFor", "(IIII)Z"⟩) ∈ xt_T := xt_in 557 (by decide +kernel) rfl
theorem xw_561 : (Cond.methodLink "AbsenceRows" 187 ⟨"AbsenceRows$Asks", "add", "(IIIII)I"⟩) ∈ xt_T := xt_in 561 (by decide +kernel) rfl
theorem xw_562 : (Cond.instanceMethod ⟨"AbsenceRows$Asks", "add", "(IIIII)I"⟩) ∈ xt_T := xt_in 562 (by decide +kernel) rfl
theorem xw_563 : (Cond.selects "AbsenceRows$Asks" ⟨"AbsenceRows$Asks", "add", "(IIIII)I"⟩ ⟨"AbsenceRows$Asks", "add", "(IIIII)I"⟩) ∈ xt_T := xt_in 563 (by decide +kernel) rfl
theorem xw_568 : (Cond.methodLink "AbsenceRowsLaw" 47 ⟨"AbsenceRows", "grant", "(II)I"⟩) ∈ xt_T := xt_in 568 (by decide +kernel) rfl
theorem xw_569 : (Cond.instanceMethod ⟨"AbsenceRows", "grant", "(II)I"⟩) ∈ xt_T := xt_in 569 (by decide +kernel) rfl
theorem xw_570 : (Cond.selects "AbsenceRows" ⟨"AbsenceRows", "grant", "(II)I"⟩ ⟨"AbsenceRows", "grant", "(II)I"⟩) ∈ xt_T := xt_in 570 (by decide +kernel) rfl
theorem xw_572 : (Cond.methodLink "AbsenceRows" 190 ⟨"AbsenceRows$Asks", "has", "(I)Z"⟩) ∈ xt_T := xt_in 572 (by decide +kernel) rfl
theorem xw_573 : (Cond.instanceMethod ⟨"AbsenceRows$Asks", "has", "(I)Z"⟩) ∈ xt_T := xt_in 573 (by decide +kernel) rfl
theorem xw_574 : (Cond.selects "AbsenceRows$Asks" ⟨"AbsenceRows$Asks", "has", "(I)Z"⟩ ⟨"AbsenceRows$Asks", "has", "(I)Z"⟩) ∈ xt_T := xt_in 574 (by decide +kernel) rfl
theorem xw_578 : (Cond.methodLink "AbsenceRows" 193 ⟨"AbsenceRows$Asks", "isOpen", "(I)Z"⟩) ∈ xt_T := xt_in 578 (by decide +kernel) rfl
theorem xw_579 : (Cond.instanceMethod ⟨"AbsenceRows$Asks", "isOpen", "(I)Z"⟩) ∈ xt_T := xt_in 579 (by decide +kernel) rfl
theorem xw_580 : (Cond.selects "AbsenceRows$Asks" ⟨"AbsenceRows$Asks", "isOpen", "(I)Z"⟩ ⟨"AbsenceRows$Asks", "isOpen", "(I)Z"⟩) ∈ xt_T := xt_in 580 (by decide +kernel) rfl
theorem xw_582 : (Cond.methodLink "AbsenceRows" 202 ⟨"AbsenceRows", "isAbove", "(II)Z"⟩) ∈ xt_T := xt_in 582 (by decide +kernel) rfl
theorem xw_584 : (Cond.instanceMethod ⟨"AbsenceRows", "isAbove", "(II)Z"⟩) ∈ xt_T := xt_in 584 (by decide +kernel) rfl
theorem xw_587 : (Cond.methodLink "AbsenceRows" 207 ⟨"AbsenceRows$Asks", "isBeforeLastStep", "(I)Z"⟩) ∈ xt_T := xt_in 587 (by decide +kernel) rfl
theorem xw_588 : (Cond.instanceMethod ⟨"AbsenceRows$Asks", "isBeforeLastStep", "(I)Z"⟩) ∈ xt_T := xt_in 588 (by decide +kernel) rfl
theorem xw_589 : (Cond.selects "AbsenceRows$Asks" ⟨"AbsenceRows$Asks", "isBeforeLastStep", "(I)Z"⟩ ⟨"AbsenceRows$Asks", "isBeforeLastStep", "(I)Z"⟩) ∈ xt_T := xt_in 589 (by decide +kernel) rfl
theorem xw_591 : (Cond.methodLink "AbsenceRows" 210 ⟨"AbsenceRows$Asks", "makeFirstStep", "(II)V"⟩) ∈ xt_T := xt_in 591 (by decide +kernel) rfl
theorem xw_592 : (Cond.instanceMethod ⟨"AbsenceRows$Asks", "makeFirstStep", "(II)V"⟩) ∈ xt_T := xt_in 592 (by decide +kernel) rfl
theorem xw_593 : (Cond.selects "AbsenceRows$Asks" ⟨"AbsenceRows$Asks", "makeFirstStep", "(II)V"⟩ ⟨"AbsenceRows$Asks", "makeFirstStep", "(II)V"⟩) ∈ xt_T := xt_in 593 (by decide +kernel) rfl
theorem xw_595 : (Cond.methodLink "AbsenceRows" 214 ⟨"AbsenceRows", "firstDayLeftShort", "(I)I"⟩) ∈ xt_T := xt_in 595 (by decide +kernel) rfl
theorem xw_597 : (Cond.instanceMethod ⟨"AbsenceRows", "firstDayLeftShort", "(I)I"⟩) ∈ xt_T := xt_in 597 (by decide +kernel) rfl
theorem xw_599 : (Cond.methodLink "AbsenceRows" 363 ⟨"AbsenceRows$Calendar", "isWorkingDay", "(I)Z"⟩) ∈ xt_T := xt_in 599 (by decide +kernel) rfl
theorem xw_600 : (Cond.methodLink "AbsenceRows" 366 ⟨"AbsenceRows", "isHalf", "(IIII)Z"⟩) ∈ xt_T := xt_in 600 (by decide +kernel) rfl
theorem xw_601 : (Cond.methodLink "AbsenceRows" 217 ⟨"AbsenceRows", "crewLeftShort", "(II)I"⟩) ∈ xt_T := xt_in 601 (by decide +kernel) rfl
theorem xw_603 : (Cond.instanceMethod ⟨"AbsenceRows", "crewLeftShort", "(II)I"⟩) ∈ xt_T := xt_in 603 (by decide +kernel) rfl
theorem xw_605 : (Cond.methodLink "AbsenceRows" 258 ⟨"AbsenceRows", "atWorkOn", "(I)I"⟩) ∈ xt_T := xt_in 605 (by decide +kernel) rfl
theorem xw_607 : (Cond.instanceMethod ⟨"AbsenceRows", "atWorkOn", "(I)I"⟩) ∈ xt_T := xt_in 607 (by decide +kernel) rfl
theorem xw_609 : (Cond.methodLink "AbsenceRows" 360 ⟨"AbsenceRows$Persons", "thereOn", "(I)I"⟩) ∈ xt_T := xt_in 609 (by decide +kernel) rfl
theorem xw_610 : (Cond.instanceMethod ⟨"AbsenceRows$Persons", "thereOn", "(I)I"⟩) ∈ xt_T := xt_in 610 (by decide +kernel) rfl
theorem xw_611 : (Cond.selects "AbsenceRows$Persons" ⟨"AbsenceRows$Persons", "thereOn", "(I)I"⟩ ⟨"AbsenceRows$Persons", "thereOn", "(I)I"⟩) ∈ xt_T := xt_in 611 (by decide +kernel) rfl
theorem xw_614 : (Cond.methodLink "AbsenceRows" 253 ⟨"AbsenceRows$Asks", "absentOn", "(I)I"⟩) ∈ xt_T := xt_in 614 (by decide +kernel) rfl
theorem xw_615 : (Cond.instanceMethod ⟨"AbsenceRows$Asks", "absentOn", "(I)I"⟩) ∈ xt_T := xt_in 615 (by decide +kernel) rfl
theorem xw_616 : (Cond.selects "AbsenceRows$Asks" ⟨"AbsenceRows$Asks", "absentOn", "(I)I"⟩ ⟨"AbsenceRows$Asks", "absentOn", "(I)I"⟩) ∈ xt_T := xt_in 616 (by decide +kernel) rfl
theorem xw_620 : (Cond.methodLink "AbsenceRows" 261 ⟨"AbsenceRows$Calls", "comeTo", "(II)I"⟩) ∈ xt_T := xt_in 620 (by decide +kernel) rfl
theorem xw_621 : (Cond.instanceMethod ⟨"AbsenceRows$Calls", "comeTo", "(II)I"⟩) ∈ xt_T := xt_in 621 (by decide +kernel) rfl
theorem xw_622 : (Cond.selects "AbsenceRows$Calls" ⟨"AbsenceRows$Calls", "comeTo", "(II)I"⟩ ⟨"AbsenceRows$Calls", "comeTo", "(II)I"⟩) ∈ xt_T := xt_in 622 (by decide +kernel) rfl
theorem xw_625 : (Cond.methodLink "AbsenceRows" 220 ⟨"AbsenceRows$HeldRows", "keep", "(III)V"⟩) ∈ xt_T := xt_in 625 (by decide +kernel) rfl
theorem xw_626 : (Cond.instanceMethod ⟨"AbsenceRows$HeldRows", "keep", "(III)V"⟩) ∈ xt_T := xt_in 626 (by decide +kernel) rfl
theorem xw_627 : (Cond.selects "AbsenceRows$HeldRows" ⟨"AbsenceRows$HeldRows", "keep", "(III)V"⟩ ⟨"AbsenceRows$HeldRows", "keep", "(III)V"⟩) ∈ xt_T := xt_in 627 (by decide +kernel) rfl
theorem xw_629 : (Cond.methodLink "AbsenceRows" 224 ⟨"AbsenceRows$Asks", "makeLastStep", "(II)V"⟩) ∈ xt_T := xt_in 629 (by decide +kernel) rfl
theorem xw_630 : (Cond.instanceMethod ⟨"AbsenceRows$Asks", "makeLastStep", "(II)V"⟩) ∈ xt_T := xt_in 630 (by decide +kernel) rfl
theorem xw_631 : (Cond.selects "AbsenceRows$Asks" ⟨"AbsenceRows$Asks", "makeLastStep", "(II)V"⟩ ⟨"AbsenceRows$Asks", "makeLastStep", "(II)V"⟩) ∈ xt_T := xt_in 631 (by decide +kernel) rfl
theorem xw_636 : (Cond.methodLink "AbsenceRowsLaw" 50 ⟨"AbsenceRows", "withdraw", "(I)I"⟩) ∈ xt_T := xt_in 636 (by decide +kernel) rfl
theorem xw_637 : (Cond.instanceMethod ⟨"AbsenceRows", "withdraw", "(I)I"⟩) ∈ xt_T := xt_in 637 (by decide +kernel) rfl
theorem xw_638 : (Cond.selects "AbsenceRows" ⟨"AbsenceRows", "withdraw", "(I)I"⟩ ⟨"AbsenceRows", "withdraw", "(I)I"⟩) ∈ xt_T := xt_in 638 (by decide +kernel) rfl
theorem xw_645 : (Cond.methodLink "AbsenceRowsLaw" 54 ⟨"AbsenceRows", "askAt", "(II)I"⟩) ∈ xt_T := xt_in 645 (by decide +kernel) rfl
theorem xw_646 : (Cond.instanceMethod ⟨"AbsenceRows", "askAt", "(II)I"⟩) ∈ xt_T := xt_in 646 (by decide +kernel) rfl
theorem xw_647 : (Cond.selects "AbsenceRows" ⟨"AbsenceRows", "askAt", "(II)I"⟩ ⟨"AbsenceRows", "askAt", "(II)I"⟩) ∈ xt_T := xt_in 647 (by decide +kernel) rfl
theorem xw_653 : (Cond.methodLink "AbsenceRowsLaw" 57 ⟨"AbsenceRows", "left", "(III)I"⟩) ∈ xt_T := xt_in 653 (by decide +kernel) rfl
theorem xw_654 : (Cond.instanceMethod ⟨"AbsenceRows", "left", "(III)I"⟩) ∈ xt_T := xt_in 654 (by decide +kernel) rfl
theorem xw_655 : (Cond.selects "AbsenceRows" ⟨"AbsenceRows", "left", "(III)I"⟩ ⟨"AbsenceRows", "left", "(III)I"⟩) ∈ xt_T := xt_in 655 (by decide +kernel) rfl
theorem xw_658 : (Cond.methodLink "AbsenceRows" 244 ⟨"AbsenceRows", "partsLeft", "(II)I"⟩) ∈ xt_T := xt_in 658 (by decide +kernel) rfl
theorem xw_660 : (Cond.instanceMethod ⟨"AbsenceRows", "partsLeft", "(II)I"⟩) ∈ xt_T := xt_in 660 (by decide +kernel) rfl
theorem xw_662 : (Cond.methodLink "AbsenceRows" 250 ⟨"AbsenceRows", "greatestDivisor", "(II)I"⟩) ∈ xt_T := xt_in 662 (by decide +kernel) rfl
theorem xw_663 : (Cond.static ⟨"AbsenceRows", "greatestDivisor", "(II)I"⟩) ∈ xt_T := xt_in 663 (by decide +kernel) rfl
theorem xw_665 : (Cond.methodLink "AbsenceRows" 395 ⟨"java/lang/Math", "abs", "(I)I"⟩) ∈ xt_T := xt_in 665 (by decide +kernel) rfl
theorem xw_666 : (Cond.static ⟨"java/lang/Math", "abs", "(I)I"⟩) ∈ xt_T := xt_in 666 (by decide +kernel) rfl
theorem xw_671 : (Cond.methodLink "AbsenceRowsLaw" 60 ⟨"AbsenceRows", "absent", "(II)Z"⟩) ∈ xt_T := xt_in 671 (by decide +kernel) rfl
theorem xw_672 : (Cond.instanceMethod ⟨"AbsenceRows", "absent", "(II)Z"⟩) ∈ xt_T := xt_in 672 (by decide +kernel) rfl
theorem xw_673 : (Cond.selects "AbsenceRows" ⟨"AbsenceRows", "absent", "(II)Z"⟩ ⟨"AbsenceRows", "absent", "(II)Z"⟩) ∈ xt_T := xt_in 673 (by decide +kernel) rfl
theorem xw_678 : (Cond.methodLink "AbsenceRowsLaw" 64 ⟨"AbsenceRows", "present", "(II)I"⟩) ∈ xt_T := xt_in 678 (by decide +kernel) rfl
theorem xw_679 : (Cond.instanceMethod ⟨"AbsenceRows", "present", "(II)I"⟩) ∈ xt_T := xt_in 679 (by decide +kernel) rfl
theorem xw_680 : (Cond.selects "AbsenceRows" ⟨"AbsenceRows", "present", "(II)I"⟩ ⟨"AbsenceRows", "present", "(II)I"⟩) ∈ xt_T := xt_in 680 (by decide +kernel) rfl
theorem xw_686 : (Cond.methodLink "AbsenceRowsLaw" 67 ⟨"AbsenceRows", "held", "(II)I"⟩) ∈ xt_T := xt_in 686 (by decide +kernel) rfl
theorem xw_687 : (Cond.instanceMethod ⟨"AbsenceRows", "held", "(II)I"⟩) ∈ xt_T := xt_in 687 (by decide +kernel) rfl
theorem xw_688 : (Cond.selects "AbsenceRows" ⟨"AbsenceRows", "held", "(II)I"⟩ ⟨"AbsenceRows", "held", "(II)I"⟩) ∈ xt_T := xt_in 688 (by decide +kernel) rfl
theorem xw_690 : (Cond.methodLink "AbsenceRows" 264 ⟨"AbsenceRows$HeldRows", "has", "(I)Z"⟩) ∈ xt_T := xt_in 690 (by decide +kernel) rfl
theorem xw_691 : (Cond.instanceMethod ⟨"AbsenceRows$HeldRows", "has", "(I)Z"⟩) ∈ xt_T := xt_in 691 (by decide +kernel) rfl
theorem xw_692 : (Cond.selects "AbsenceRows$HeldRows" ⟨"AbsenceRows$HeldRows", "has", "(I)Z"⟩ ⟨"AbsenceRows$HeldRows", "has", "(I)Z"⟩) ∈ xt_T := xt_in 692 (by decide +kernel) rfl
theorem xw_699 : (Cond.methodLink "AbsenceRowsLaw" 70 ⟨"AbsenceRows", "bar", "(III)V"⟩) ∈ xt_T := xt_in 699 (by decide +kernel) rfl
theorem xw_700 : (Cond.instanceMethod ⟨"AbsenceRows", "bar", "(III)V"⟩) ∈ xt_T := xt_in 700 (by decide +kernel) rfl
theorem xw_701 : (Cond.selects "AbsenceRows" ⟨"AbsenceRows", "bar", "(III)V"⟩ ⟨"AbsenceRows", "bar", "(III)V"⟩) ∈ xt_T := xt_in 701 (by decide +kernel) rfl
theorem xw_707 : (Cond.methodLink "AbsenceRowsLaw" 73 ⟨"AbsenceRows", "patience", "(I)V"⟩) ∈ xt_T := xt_in 707 (by decide +kernel) rfl
theorem xw_708 : (Cond.instanceMethod ⟨"AbsenceRows", "patience", "(I)V"⟩) ∈ xt_T := xt_in 708 (by decide +kernel) rfl
theorem xw_709 : (Cond.selects "AbsenceRows" ⟨"AbsenceRows", "patience", "(I)V"⟩ ⟨"AbsenceRows", "patience", "(I)V"⟩) ∈ xt_T := xt_in 709 (by decide +kernel) rfl
theorem xw_715 : (Cond.methodLink "AbsenceRowsLaw" 76 ⟨"AbsenceRows", "call", "(II)I"⟩) ∈ xt_T := xt_in 715 (by decide +kernel) rfl
theorem xw_716 : (Cond.instanceMethod ⟨"AbsenceRows", "call", "(II)I"⟩) ∈ xt_T := xt_in 716 (by decide +kernel) rfl
theorem xw_717 : (Cond.selects "AbsenceRows" ⟨"AbsenceRows", "call", "(II)I"⟩ ⟨"AbsenceRows", "call", "(II)I"⟩) ∈ xt_T := xt_in 717 (by decide +kernel) rfl
theorem xw_721 : (Cond.methodLink "AbsenceRows" 288 ⟨"AbsenceRows$Calls", "add", "(II)I"⟩) ∈ xt_T := xt_in 721 (by decide +kernel) rfl
theorem xw_722 : (Cond.instanceMethod ⟨"AbsenceRows$Calls", "add", "(II)I"⟩) ∈ xt_T := xt_in 722 (by decide +kernel) rfl
theorem xw_723 : (Cond.selects "AbsenceRows$Calls" ⟨"AbsenceRows$Calls", "add", "(II)I"⟩ ⟨"AbsenceRows$Calls", "add", "(II)I"⟩) ∈ xt_T := xt_in 723 (by decide +kernel) rfl
theorem xw_725 : (Cond.methodLink "AbsenceRows" 289 ⟨"AbsenceRows", "askNext", "(I)V"⟩) ∈ xt_T := xt_in 725 (by decide +kernel) rfl
theorem xw_727 : (Cond.instanceMethod ⟨"AbsenceRows", "askNext", "(I)V"⟩) ∈ xt_T := xt_in 727 (by decide +kernel) rfl
theorem xw_729 : (Cond.methodLink "AbsenceRows" 372 ⟨"AbsenceRows", "nextToAsk", "(I)I"⟩) ∈ xt_T := xt_in 729 (by decide +kernel) rfl
theorem xw_731 : (Cond.instanceMethod ⟨"AbsenceRows", "nextToAsk", "(I)I"⟩) ∈ xt_T := xt_in 731 (by decide +kernel) rfl
theorem xw_733 : (Cond.methodLink "AbsenceRows" 383 ⟨"AbsenceRows$Calls", "engagedOn", "(I)I"⟩) ∈ xt_T := xt_in 733 (by decide +kernel) rfl
theorem xw_734 : (Cond.instanceMethod ⟨"AbsenceRows$Calls", "engagedOn", "(I)I"⟩) ∈ xt_T := xt_in 734 (by decide +kernel) rfl
theorem xw_735 : (Cond.selects "AbsenceRows$Calls" ⟨"AbsenceRows$Calls", "engagedOn", "(I)I"⟩ ⟨"AbsenceRows$Calls", "engagedOn", "(I)I"⟩) ∈ xt_T := xt_in 735 (by decide +kernel) rfl
theorem xw_737 : (Cond.methodLink "AbsenceRows" 389 ⟨"AbsenceRows$Persons", "haveSkills", "(III)Z"⟩) ∈ xt_T := xt_in 737 (by decide +kernel) rfl
theorem xw_738 : (Cond.instanceMethod ⟨"AbsenceRows$Persons", "haveSkills", "(III)Z"⟩) ∈ xt_T := xt_in 738 (by decide +kernel) rfl
theorem xw_739 : (Cond.selects "AbsenceRows$Persons" ⟨"AbsenceRows$Persons", "haveSkills", "(III)Z"⟩ ⟨"AbsenceRows$Persons", "haveSkills", "(III)Z"⟩) ∈ xt_T := xt_in 739 (by decide +kernel) rfl
theorem xw_741 : (Cond.methodLink "AbsenceRows" 392 ⟨"AbsenceRows$Persons", "goesBefore", "(II)Z"⟩) ∈ xt_T := xt_in 741 (by decide +kernel) rfl
theorem xw_742 : (Cond.instanceMethod ⟨"AbsenceRows$Persons", "goesBefore", "(II)Z"⟩) ∈ xt_T := xt_in 742 (by decide +kernel) rfl
theorem xw_743 : (Cond.selects "AbsenceRows$Persons" ⟨"AbsenceRows$Persons", "goesBefore", "(II)Z"⟩ ⟨"AbsenceRows$Persons", "goesBefore", "(II)Z"⟩) ∈ xt_T := xt_in 743 (by decide +kernel) rfl
theorem xw_745 : (Cond.methodLink "AbsenceRows" 375 ⟨"AbsenceRows$Calls", "fail", "(I)V"⟩) ∈ xt_T := xt_in 745 (by decide +kernel) rfl
theorem xw_746 : (Cond.instanceMethod ⟨"AbsenceRows$Calls", "fail", "(I)V"⟩) ∈ xt_T := xt_in 746 (by decide +kernel) rfl
theorem xw_747 : (Cond.selects "AbsenceRows$Calls" ⟨"AbsenceRows$Calls", "fail", "(I)V"⟩ ⟨"AbsenceRows$Calls", "fail", "(I)V"⟩) ∈ xt_T := xt_in 747 (by decide +kernel) rfl
theorem xw_749 : (Cond.methodLink "AbsenceRows" 378 ⟨"AbsenceRows$Calls", "waitFor", "(III)V"⟩) ∈ xt_T := xt_in 749 (by decide +kernel) rfl
theorem xw_750 : (Cond.instanceMethod ⟨"AbsenceRows$Calls", "waitFor", "(III)V"⟩) ∈ xt_T := xt_in 750 (by decide +kernel) rfl
theorem xw_751 : (Cond.selects "AbsenceRows$Calls" ⟨"AbsenceRows$Calls", "waitFor", "(III)V"⟩ ⟨"AbsenceRows$Calls", "waitFor", "(III)V"⟩) ∈ xt_T := xt_in 751 (by decide +kernel) rfl
theorem xw_756 : (Cond.methodLink "AbsenceRowsLaw" 79 ⟨"AbsenceRows", "answer", "(IZ)I"⟩) ∈ xt_T := xt_in 756 (by decide +kernel) rfl
theorem xw_757 : (Cond.instanceMethod ⟨"AbsenceRows", "answer", "(IZ)I"⟩) ∈ xt_T := xt_in 757 (by decide +kernel) rfl
theorem xw_758 : (Cond.selects "AbsenceRows" ⟨"AbsenceRows", "answer", "(IZ)I"⟩ ⟨"AbsenceRows", "answer", "(IZ)I"⟩) ∈ xt_T := xt_in 758 (by decide +kernel) rfl
theorem xw_760 : (Cond.methodLink "AbsenceRows" 293 ⟨"AbsenceRows$Calls", "has", "(I)Z"⟩) ∈ xt_T := xt_in 760 (by decide +kernel) rfl
theorem xw_761 : (Cond.instanceMethod ⟨"AbsenceRows$Calls", "has", "(I)Z"⟩) ∈ xt_T := xt_in 761 (by decide +kernel) rfl
theorem xw_762 : (Cond.selects "AbsenceRows$Calls" ⟨"AbsenceRows$Calls", "has", "(I)Z"⟩ ⟨"AbsenceRows$Calls", "has", "(I)Z"⟩) ∈ xt_T := xt_in 762 (by decide +kernel) rfl
theorem xw_767 : (Cond.methodLink "AbsenceRows" 299 ⟨"AbsenceRows$Calls", "fill", "(I)V"⟩) ∈ xt_T := xt_in 767 (by decide +kernel) rfl
theorem xw_768 : (Cond.instanceMethod ⟨"AbsenceRows$Calls", "fill", "(I)V"⟩) ∈ xt_T := xt_in 768 (by decide +kernel) rfl
theorem xw_769 : (Cond.selects "AbsenceRows$Calls" ⟨"AbsenceRows$Calls", "fill", "(I)V"⟩ ⟨"AbsenceRows$Calls", "fill", "(I)V"⟩) ∈ xt_T := xt_in 769 (by decide +kernel) rfl
theorem xw_774 : (Cond.methodLink "AbsenceRowsLaw" 83 ⟨"AbsenceRows", "callAt", "(II)I"⟩) ∈ xt_T := xt_in 774 (by decide +kernel) rfl
theorem xw_775 : (Cond.instanceMethod ⟨"AbsenceRows", "callAt", "(II)I"⟩) ∈ xt_T := xt_in 775 (by decide +kernel) rfl
theorem xw_776 : (Cond.selects "AbsenceRows" ⟨"AbsenceRows", "callAt", "(II)I"⟩ ⟨"AbsenceRows", "callAt", "(II)I"⟩) ∈ xt_T := xt_in 776 (by decide +kernel) rfl
theorem xw_781 : (Cond.methodLink "AbsenceRowsLaw" 86 ⟨"AbsenceRows", "asked", "(I)I"⟩) ∈ xt_T := xt_in 781 (by decide +kernel) rfl
theorem xw_782 : (Cond.instanceMethod ⟨"AbsenceRows", "asked", "(I)I"⟩) ∈ xt_T := xt_in 782 (by decide +kernel) rfl
theorem xw_783 : (Cond.selects "AbsenceRows" ⟨"AbsenceRows", "asked", "(I)I"⟩ ⟨"AbsenceRows", "asked", "(I)I"⟩) ∈ xt_T := xt_in 783 (by decide +kernel) rfl
theorem xw_788 : (Cond.methodLink "AbsenceRowsLaw" 89 ⟨"AbsenceRows", "tick", "(I)I"⟩) ∈ xt_T := xt_in 788 (by decide +kernel) rfl
theorem xw_789 : (Cond.instanceMethod ⟨"AbsenceRows", "tick", "(I)I"⟩) ∈ xt_T := xt_in 789 (by decide +kernel) rfl
theorem xw_790 : (Cond.selects "AbsenceRows" ⟨"AbsenceRows", "tick", "(I)I"⟩ ⟨"AbsenceRows", "tick", "(I)I"⟩) ∈ xt_T := xt_in 790 (by decide +kernel) rfl
theorem xw_792 : (Cond.methodLink "AbsenceRows" 312 ⟨"AbsenceRows$Calls", "earliestNextAt", "()I"⟩) ∈ xt_T := xt_in 792 (by decide +kernel) rfl
theorem xw_793 : (Cond.instanceMethod ⟨"AbsenceRows$Calls", "earliestNextAt", "()I"⟩) ∈ xt_T := xt_in 793 (by decide +kernel) rfl
theorem xw_794 : (Cond.selects "AbsenceRows$Calls" ⟨"AbsenceRows$Calls", "earliestNextAt", "()I"⟩ ⟨"AbsenceRows$Calls", "earliestNextAt", "()I"⟩) ∈ xt_T := xt_in 794 (by decide +kernel) rfl
theorem xw_796 : (Cond.methodLink "AbsenceRows" 316 ⟨"AbsenceRows", "goOnWithoutAnswer", "()I"⟩) ∈ xt_T := xt_in 796 (by decide +kernel) rfl
theorem xw_798 : (Cond.instanceMethod ⟨"AbsenceRows", "goOnWithoutAnswer", "()I"⟩) ∈ xt_T := xt_in 798 (by decide +kernel) rfl
theorem xw_926 : (Cond.methodLink "AbsenceRowsModel" 102 ⟨"AbsenceRowsModel", "in", "(III)Z"⟩) ∈ xt_T := xt_in 926 (by decide +kernel) rfl
theorem xw_927 : (Cond.static ⟨"AbsenceRowsModel", "in", "(III)Z"⟩) ∈ xt_T := xt_in 927 (by decide +kernel) rfl
theorem xw_929 : (Cond.methodLink "AbsenceRowsModel" 112 ⟨"AbsenceRowsModel", "isDay", "(I)Z"⟩) ∈ xt_T := xt_in 929 (by decide +kernel) rfl
theorem xw_930 : (Cond.static ⟨"AbsenceRowsModel", "isDay", "(I)Z"⟩) ∈ xt_T := xt_in 930 (by decide +kernel) rfl
theorem xw_932 : (Cond.methodLink "AbsenceRowsModel" 116 ⟨"AbsenceRowsModel", "goes", "(IZZZZ)Z"⟩) ∈ xt_T := xt_in 932 (by decide +kernel) rfl
theorem xw_934 : (Cond.instanceMethod ⟨"AbsenceRowsModel", "goes", "(IZZZZ)Z"⟩) ∈ xt_T := xt_in 934 (by decide +kernel) rfl
theorem xw_940 : (Cond.methodLink "AbsenceRowsModel" 151 ⟨"AbsenceRowsModel", "isPerson", "(I)Z"⟩) ∈ xt_T := xt_in 940 (by decide +kernel) rfl
theorem xw_942 : (Cond.instanceMethod ⟨"AbsenceRowsModel", "isPerson", "(I)Z"⟩) ∈ xt_T := xt_in 942 (by decide +kernel) rfl
theorem xw_944 : (Cond.methodLink "AbsenceRowsModel" 154 ⟨"AbsenceRowsModel", "isEnough", "(I)Z"⟩) ∈ xt_T := xt_in 944 (by decide +kernel) rfl
theorem xw_946 : (Cond.instanceMethod ⟨"AbsenceRowsModel", "isEnough", "(I)Z"⟩) ∈ xt_T := xt_in 946 (by decide +kernel) rfl
theorem xw_948 : (Cond.methodLink "AbsenceRowsModel" 148 ⟨"AbsenceRowsModel", "restOf", "(II)J"⟩) ∈ xt_T := xt_in 948 (by decide +kernel) rfl
theorem xw_950 : (Cond.instanceMethod ⟨"AbsenceRowsModel", "restOf", "(II)J"⟩) ∈ xt_T := xt_in 950 (by decide +kernel) rfl
theorem xw_952 : (Cond.methodLink "AbsenceRowsModel" 138 ⟨"AbsenceRowsModel", "rest", "(II)J"⟩) ∈ xt_T := xt_in 952 (by decide +kernel) rfl
theorem xw_954 : (Cond.instanceMethod ⟨"AbsenceRowsModel", "rest", "(II)J"⟩) ∈ xt_T := xt_in 954 (by decide +kernel) rfl
theorem xw_957 : (Cond.methodLink "AbsenceRowsModel" 132 ⟨"AbsenceRowsModel", "takes", "(I)I"⟩) ∈ xt_T := xt_in 957 (by decide +kernel) rfl
theorem xw_959 : (Cond.instanceMethod ⟨"AbsenceRowsModel", "takes", "(I)I"⟩) ∈ xt_T := xt_in 959 (by decide +kernel) rfl
theorem xw_961 : (Cond.methodLink "AbsenceRowsModel" 120 ⟨"AbsenceRowsModel", "isWork", "(I)Z"⟩) ∈ xt_T := xt_in 961 (by decide +kernel) rfl
theorem xw_963 : (Cond.instanceMethod ⟨"AbsenceRowsModel", "isWork", "(I)Z"⟩) ∈ xt_T := xt_in 963 (by decide +kernel) rfl
theorem xw_965 : (Cond.methodLink "AbsenceRowsModel" 123 ⟨"AbsenceRowsModel", "isHalf", "(II)Z"⟩) ∈ xt_T := xt_in 965 (by decide +kernel) rfl
theorem xw_967 : (Cond.instanceMethod ⟨"AbsenceRowsModel", "isHalf", "(II)Z"⟩) ∈ xt_T := xt_in 967 (by decide +kernel) rfl
theorem xw_970 : (Cond.methodLink "AbsenceRowsModel" 145 ⟨"AbsenceRowsModel", "whole", "(I)I"⟩) ∈ xt_T := xt_in 970 (by decide +kernel) rfl
theorem xw_972 : (Cond.instanceMethod ⟨"AbsenceRowsModel", "whole", "(I)I"⟩) ∈ xt_T := xt_in 972 (by decide +kernel) rfl
theorem xw_994 : (Cond.methodLink "AbsenceRowsModel" 157 ⟨"AbsenceRowsModel", "isCrew", "(I)Z"⟩) ∈ xt_T := xt_in 994 (by decide +kernel) rfl
theorem xw_996 : (Cond.instanceMethod ⟨"AbsenceRowsModel", "isCrew", "(I)Z"⟩) ∈ xt_T := xt_in 996 (by decide +kernel) rfl
theorem xw_1002 : (Cond.methodLink "AbsenceRowsModel" 163 ⟨"AbsenceRowsModel", "isAbsent", "(II)Z"⟩) ∈ xt_T := xt_in 1002 (by decide +kernel) rfl
theorem xw_1004 : (Cond.instanceMethod ⟨"AbsenceRowsModel", "isAbsent", "(II)Z"⟩) ∈ xt_T := xt_in 1004 (by decide +kernel) rfl
theorem xw_1010 : (Cond.methodLink "AbsenceRowsModel" 172 ⟨"AbsenceRowsModel", "count", "(II)I"⟩) ∈ xt_T := xt_in 1010 (by decide +kernel) rfl
theorem xw_1012 : (Cond.instanceMethod ⟨"AbsenceRowsModel", "count", "(II)I"⟩) ∈ xt_T := xt_in 1012 (by decide +kernel) rfl
theorem xw_1014 : (Cond.methodLink "AbsenceRowsModel" 169 ⟨"AbsenceRowsModel", "isPresent", "(III)Z"⟩) ∈ xt_T := xt_in 1014 (by decide +kernel) rfl
theorem xw_1016 : (Cond.instanceMethod ⟨"AbsenceRowsModel", "isPresent", "(III)Z"⟩) ∈ xt_T := xt_in 1016 (by decide +kernel) rfl
theorem xw_1018 : (Cond.methodLink "AbsenceRowsModel" 166 ⟨"AbsenceRowsModel", "comes", "(III)Z"⟩) ∈ xt_T := xt_in 1018 (by decide +kernel) rfl
theorem xw_1020 : (Cond.instanceMethod ⟨"AbsenceRowsModel", "comes", "(III)Z"⟩) ∈ xt_T := xt_in 1020 (by decide +kernel) rfl
theorem xw_1026 : (Cond.methodLink "AbsenceRowsModel" 176 ⟨"AbsenceRowsModel", "put", "(IIIII)V"⟩) ∈ xt_T := xt_in 1026 (by decide +kernel) rfl
theorem xw_1028 : (Cond.instanceMethod ⟨"AbsenceRowsModel", "put", "(IIIII)V"⟩) ∈ xt_T := xt_in 1028 (by decide +kernel) rfl
theorem xw_1034 : (Cond.methodLink "AbsenceRowsModel" 180 ⟨"AbsenceRowsModel", "isAsk", "(I)Z"⟩) ∈ xt_T := xt_in 1034 (by decide +kernel) rfl
theorem xw_1036 : (Cond.instanceMethod ⟨"AbsenceRowsModel", "isAsk", "(I)Z"⟩) ∈ xt_T := xt_in 1036 (by decide +kernel) rfl
theorem xw_1038 : (Cond.methodLink "AbsenceRowsModel" 183 ⟨"AbsenceRowsModel", "shortage", "(I)I"⟩) ∈ xt_T := xt_in 1038 (by decide +kernel) rfl
theorem xw_1040 : (Cond.instanceMethod ⟨"AbsenceRowsModel", "shortage", "(I)I"⟩) ∈ xt_T := xt_in 1040 (by decide +kernel) rfl
theorem xw_1070 : (Cond.methodLink "AbsenceRowsModel" 198 ⟨"AbsenceRowsModel", "asksNext", "(I)V"⟩) ∈ xt_T := xt_in 1070 (by decide +kernel) rfl
theorem xw_1072 : (Cond.instanceMethod ⟨"AbsenceRowsModel", "asksNext", "(I)V"⟩) ∈ xt_T := xt_in 1072 (by decide +kernel) rfl
theorem xw_1074 : (Cond.methodLink "AbsenceRowsModel" 189 ⟨"AbsenceRowsModel", "hasSkills", "(III)Z"⟩) ∈ xt_T := xt_in 1074 (by decide +kernel) rfl
theorem xw_1076 : (Cond.instanceMethod ⟨"AbsenceRowsModel", "hasSkills", "(III)Z"⟩) ∈ xt_T := xt_in 1076 (by decide +kernel) rfl
theorem xw_1078 : (Cond.methodLink "AbsenceRowsModel" 192 ⟨"AbsenceRowsModel", "isFree", "(II)Z"⟩) ∈ xt_T := xt_in 1078 (by decide +kernel) rfl
theorem xw_1080 : (Cond.instanceMethod ⟨"AbsenceRowsModel", "isFree", "(II)Z"⟩) ∈ xt_T := xt_in 1080 (by decide +kernel) rfl
theorem xw_1086 : (Cond.methodLink "AbsenceRowsModel" 202 ⟨"AbsenceRowsModel", "isCall", "(I)Z"⟩) ∈ xt_T := xt_in 1086 (by decide +kernel) rfl
theorem xw_1088 : (Cond.instanceMethod ⟨"AbsenceRowsModel", "isCall", "(I)Z"⟩) ∈ xt_T := xt_in 1088 (by decide +kernel) rfl
theorem xn_0 : (Cond.methodLinkNest "AbsenceRows" 9 ⟨"AbsenceRows$Calendar", "<init>", "()V"⟩ "AbsenceRows") ∈ xk_ns := List.mem_of_getElem? (i := 0) rfl
theorem xn_1 : (Cond.methodLinkNest "AbsenceRows" 18 ⟨"AbsenceRows$Persons", "<init>", "()V"⟩ "AbsenceRows") ∈ xk_ns := List.mem_of_getElem? (i := 1) rfl
theorem xn_2 : (Cond.methodLinkNest "AbsenceRows" 25 ⟨"AbsenceRows$Crews", "<init>", "()V"⟩ "AbsenceRows") ∈ xk_ns := List.mem_of_getElem? (i := 2) rfl
theorem xn_3 : (Cond.methodLinkNest "AbsenceRows" 32 ⟨"AbsenceRows$Asks", "<init>", "()V"⟩ "AbsenceRows") ∈ xk_ns := List.mem_of_getElem? (i := 3) rfl
theorem xn_4 : (Cond.methodLinkNest "AbsenceRows" 39 ⟨"AbsenceRows$HeldRows", "<init>", "()V"⟩ "AbsenceRows") ∈ xk_ns := List.mem_of_getElem? (i := 4) rfl
theorem xn_5 : (Cond.methodLinkNest "AbsenceRows" 46 ⟨"AbsenceRows$Calls", "<init>", "()V"⟩ "AbsenceRows") ∈ xk_ns := List.mem_of_getElem? (i := 5) rfl
theorem xn_6 : (Cond.methodLinkNest "AbsenceRows$Persons" 37 ⟨"AbsenceRows", "isWithin", "(III)Z"⟩ "AbsenceRows") ∈ xk_ns := List.mem_of_getElem? (i := 6) rfl
theorem xn_7 : (Cond.methodLinkNest "AbsenceRows$Calendar" 19 ⟨"AbsenceRows", "isHalf", "(IIII)Z"⟩ "AbsenceRows") ∈ xk_ns := List.mem_of_getElem? (i := 7) rfl
theorem xn_8 : (Cond.methodLinkNest "AbsenceRows$Crews" 25 ⟨"AbsenceRows", "isWithin", "(III)Z"⟩ "AbsenceRows") ∈ xk_ns := List.mem_of_getElem? (i := 8) rfl
theorem xn_9 : (Cond.methodLinkNest "AbsenceRows$Asks" 37 ⟨"AbsenceRows", "isWithin", "(III)Z"⟩ "AbsenceRows") ∈ xk_ns := List.mem_of_getElem? (i := 9) rfl
theorem xn_10 : (Cond.methodLinkNest "AbsenceRows$Persons" 50 ⟨"AbsenceRows", "only", "(I)I"⟩ "AbsenceRows") ∈ xk_ns := List.mem_of_getElem? (i := 10) rfl
theorem xn_11 : (Cond.methodLinkNest "AbsenceRows$Asks" 41 ⟨"AbsenceRows", "isHalf", "(IIII)Z"⟩ "AbsenceRows") ∈ xk_ns := List.mem_of_getElem? (i := 11) rfl
theorem xn_12 : (Cond.methodLinkNest "AbsenceRows$Asks" 45 ⟨"AbsenceRows", "only", "(I)I"⟩ "AbsenceRows") ∈ xk_ns := List.mem_of_getElem? (i := 12) rfl
theorem xn_13 : (Cond.methodLinkNest "AbsenceRows$Calls" 38 ⟨"AbsenceRows", "only", "(I)I"⟩ "AbsenceRows") ∈ xk_ns := List.mem_of_getElem? (i := 13) rfl
theorem xn_14 : (Cond.methodLinkNest "AbsenceRows$HeldRows" 25 ⟨"AbsenceRows", "isWithin", "(III)Z"⟩ "AbsenceRows") ∈ xk_ns := List.mem_of_getElem? (i := 14) rfl
theorem xn_15 : (Cond.methodLinkNest "AbsenceRows$Calls" 34 ⟨"AbsenceRows", "isWithin", "(III)Z"⟩ "AbsenceRows") ∈ xk_ns := List.mem_of_getElem? (i := 15) rfl
theorem xn_16 : (Cond.castable "java/lang/IndexOutOfBoundsException" "java/lang/IndexOutOfBoundsException") ∈ xk_ns := List.mem_of_getElem? (i := 16) rfl
theorem xn_17 : (Cond.declares ⟨"java/lang/RuntimeException", "<init>", "()V"⟩) ∈ xk_ns := List.mem_of_getElem? (i := 17) rfl
theorem xn_18 : (Cond.declares ⟨"java/lang/RuntimeException", "<init>", "(Ljava/lang/String;)V"⟩) ∈ xk_ns := List.mem_of_getElem? (i := 18) rfl
theorem xn_19 : (Cond.declares ⟨"java/lang/Exception", "<init>", "()V"⟩) ∈ xk_ns := List.mem_of_getElem? (i := 19) rfl
theorem xn_20 : (Cond.declares ⟨"java/lang/Exception", "<init>", "(Ljava/lang/String;)V"⟩) ∈ xk_ns := List.mem_of_getElem? (i := 20) rfl
theorem xn_21 : (Cond.declares ⟨"java/lang/Throwable", "<init>", "()V"⟩) ∈ xk_ns := List.mem_of_getElem? (i := 21) rfl
theorem xn_22 : (Cond.declares ⟨"java/lang/Throwable", "<init>", "(Ljava/lang/String;)V"⟩) ∈ xk_ns := List.mem_of_getElem? (i := 22) rfl
theorem xn_23 : (Cond.castable "java/lang/UnsupportedOperationException" "java/lang/UnsupportedOperationException") ∈ xk_ns := List.mem_of_getElem? (i := 23) rfl
theorem xn_24 : (Cond.castable "java/lang/IllegalArgumentException" "java/lang/IllegalArgumentException") ∈ xk_ns := List.mem_of_getElem? (i := 24) rfl
theorem xn_25 : (Cond.castable "java/lang/IllegalStateException" "java/lang/IllegalStateException") ∈ xk_ns := List.mem_of_getElem? (i := 25) rfl
end
section
def pA_isWithin (as : List Value) (M : xm_M) : Prop := ∃ x lo hi : Int32, as = [.int x, .int lo, .int hi]
noncomputable def fA_isWithin (as : List Value) (M : xm_M) : Option Value × xm_M := match as with
  | [.int x, .int lo, .int hi] => (some (.int (xi_b (lo ≤ x ∧ x ≤ hi))), M)
  | _ => (none, M)
noncomputable abbrev sA_isWithin : xm_C := (1, 3, 0, pA_isWithin, fA_isWithin)
theorem uA_isWithin : ∀ as M, (fA_isWithin as M).2 = M := by
  intro as M
  unfold fA_isWithin
  split <;> rfl
noncomputable def tA_isWithin : List (Nat × xm_C) := []
theorem lA_isWithin (l : Launch) : ∀ n C, (n, C) ∈ tA_isWithin → xm_lkS l "AbsenceRows" xt_T xk_ns (xr_ 0) xk_cl xk_tA n C ∨ xm_lkV l "AbsenceRows" xt_T xk_ns (xr_ 0) xk_cl xk_tA n C := fun n C h => (show ∀ q ∈ tA_isWithin, xm_lkS l "AbsenceRows" xt_T xk_ns (xr_ 0) xk_cl xk_tA q.1 q.2 ∨ xm_lkV l "AbsenceRows" xt_T xk_ns (xr_ 0) xk_cl xk_tA q.1 q.2 from fun _ h => absurd h List.not_mem_nil) (n, C) h
set_option maxRecDepth 20000 in
set_option maxHeartbeats 2000000 in
theorem cA_isWithin (l : Launch) : xm_Pu l xy_A_isWithin (Cond.code xy_A_isWithin xb_A_isWithin 3 (some .boolean) :: xt_T) (xr_ 0) xk_cl xk_ns xk_tA pA_isWithin fA_isWithin := by
  refine xm_mk_pu (rt := .boolean) (fl := xf_A) (ct := tA_isWithin) (cn := []) (cj := []) (plainFor_of_name (by decide)) xs_A xd_A_isWithin rfl (Or.inr rfl) (lA_isWithin l) (fun _ _ _ _ _ _ _ _ => False) ?_ ?_ ?_ (fun _ _ _ _ _ _ _ _ _ h => h.elim) ?_
  · rintro as M ⟨x, lo, hi, rfl⟩; exact Nat.le_of_ble_eq_true rfl
  · rintro as M ⟨x, lo, hi, rfl⟩; simp [fA_isWithin]
  · rintro as M v ⟨x, lo, hi, rfl⟩ h; first | rfl | (simp [fA_isWithin] at h)
  · rintro as M ⟨x, lo, hi, rfl⟩
    refine ⟨400, (And.intro (by decide) (And.intro (fun h2 => (And.intro ?g1_w_15 ?g2_r_15)) (fun h2 => (And.intro (by decide) (And.intro (fun h7 => (And.intro ?g3_w_15 ?g4_r_15)) (fun h7 => (And.intro (by decide) (And.intro ?g5_w_15 ?g6_r_15))))))))⟩
    case g1_w_15 =>
      first | rfl | exact xi_nb
    case g2_r_15 =>
      refine ⟨congrArg (fun z => some (Value.int z)) ?_, rfl⟩
      try simp only [xi_0, xi_n0] at *
      first | exact (xi_t (by grind [Int32.not_lt, Int32.not_le])).symm | exact (xi_f (by grind [Int32.not_lt, Int32.not_le])).symm
    case g3_w_15 =>
      first | rfl | exact xi_nb
    case g4_r_15 =>
      refine ⟨congrArg (fun z => some (Value.int z)) ?_, rfl⟩
      try simp only [xi_0, xi_n0] at *
      first | exact (xi_t (by grind [Int32.not_lt, Int32.not_le])).symm | exact (xi_f (by grind [Int32.not_lt, Int32.not_le])).symm
    case g5_w_15 =>
      first | rfl | exact xi_nb
    case g6_r_15 =>
      refine ⟨congrArg (fun z => some (Value.int z)) ?_, rfl⟩
      try simp only [xi_0, xi_n0] at *
      first | exact (xi_t (by grind [Int32.not_lt, Int32.not_le])).symm | exact (xi_f (by grind [Int32.not_lt, Int32.not_le])).symm
def pA_isDay (as : List Value) (M : xm_M) : Prop := ∃ d : Int32, as = [.int d]
noncomputable def fA_isDay (as : List Value) (M : xm_M) : Option Value × xm_M := match as with
  | [.int d] => (some (.int (xi_b (0 ≤ d ∧ d ≤ 729))), M)
  | _ => (none, M)
noncomputable abbrev sA_isDay : xm_C := (1, 1, 0, pA_isDay, fA_isDay)
theorem uA_isDay : ∀ as M, (fA_isDay as M).2 = M := by
  intro as M
  unfold fA_isDay
  split <;> rfl
noncomputable def tA_isDay : List (Nat × xm_C) := [(61, sA_isWithin)]
theorem lA_isDay (l : Launch) : ∀ n C, (n, C) ∈ tA_isDay → xm_lkS l "AbsenceRows" xt_T xk_ns (xr_ 1) xk_cl xk_tA n C ∨ xm_lkV l "AbsenceRows" xt_T xk_ns (xr_ 1) xk_cl xk_tA n C := fun n C h => (show ∀ q ∈ tA_isDay, xm_lkS l "AbsenceRows" xt_T xk_ns (xr_ 1) xk_cl xk_tA q.1 q.2 ∨ xm_lkV l "AbsenceRows" xt_T xk_ns (xr_ 1) xk_cl xk_tA q.1 q.2 from List.forall_mem_cons.mpr ⟨Or.inl ⟨xy_A_isWithin, xb_A_isWithin, 3, (some .boolean), xr_ 0, rfl, ⟨xe_A_isWithin, xw_37, ⟨by decide, by decide, by decide +kernel⟩, ⟨Nat.le_of_ble_eq_true rfl, Nat.le_of_ble_eq_true rfl⟩, rfl, rfl⟩, xw_269, Or.inl xw_268, Or.inl ⟨rfl, uA_isWithin, cA_isWithin l⟩⟩, fun _ h => absurd h List.not_mem_nil⟩) (n, C) h
set_option maxRecDepth 20000 in
set_option maxHeartbeats 2000000 in
theorem cA_isDay (l : Launch) : xm_Pu l xy_A_isDay (Cond.code xy_A_isDay xb_A_isDay 1 (some .boolean) :: xt_T) (xr_ 1) xk_cl xk_ns xk_tA pA_isDay fA_isDay := by
  refine xm_mk_pu (rt := .boolean) (fl := xf_A) (ct := tA_isDay) (cn := []) (cj := []) (plainFor_of_name (by decide)) xs_A xd_A_isDay rfl (Or.inr rfl) (lA_isDay l) (fun _ _ _ _ _ _ _ _ => False) ?_ ?_ ?_ (fun _ _ _ _ _ _ _ _ _ h => h.elim) ?_
  · rintro as M ⟨d, rfl⟩; exact Nat.le_of_ble_eq_true rfl
  · rintro as M ⟨d, rfl⟩; simp [fA_isDay]
  · rintro as M v ⟨d, rfl⟩ h; first | rfl | (simp [fA_isDay] at h)
  · rintro as M ⟨d, rfl⟩
    refine ⟨400, (And.intro rfl (And.intro (Nat.le_of_ble_eq_true rfl) (And.intro (Nat.le_of_ble_eq_true rfl) (And.intro ?g1_c_5 (And.intro ?g2_w_8 ?g3_r_8)))))⟩
    case g1_c_5 =>
      exact ⟨_, _, _, rfl⟩
    case g2_w_8 =>
      first | rfl | exact xi_nb
    case g3_r_8 =>
      exact ⟨rfl, rfl⟩
def pA_isSpan (as : List Value) (M : xm_M) : Prop := ∃ f t : Int32, as = [.int f, .int t]
noncomputable def fA_isSpan (as : List Value) (M : xm_M) : Option Value × xm_M := match as with
  | [.int f, .int t] => (some (.int (xi_b ((0 ≤ f ∧ f ≤ 729) ∧ (0 ≤ t ∧ t ≤ 729) ∧ f ≤ t))), M)
  | _ => (none, M)
noncomputable abbrev sA_isSpan : xm_C := (1, 2, 0, pA_isSpan, fA_isSpan)
theorem uA_isSpan : ∀ as M, (fA_isSpan as M).2 = M := by
  intro as M
  unfold fA_isSpan
  split <;> rfl
noncomputable def tA_isSpan : List (Nat × xm_C) := [(65, sA_isDay)]
theorem lA_isSpan (l : Launch) : ∀ n C, (n, C) ∈ tA_isSpan → xm_lkS l "AbsenceRows" xt_T xk_ns (xr_ 2) xk_cl xk_tA n C ∨ xm_lkV l "AbsenceRows" xt_T xk_ns (xr_ 2) xk_cl xk_tA n C := fun n C h => (show ∀ q ∈ tA_isSpan, xm_lkS l "AbsenceRows" xt_T xk_ns (xr_ 2) xk_cl xk_tA q.1 q.2 ∨ xm_lkV l "AbsenceRows" xt_T xk_ns (xr_ 2) xk_cl xk_tA q.1 q.2 from List.forall_mem_cons.mpr ⟨Or.inl ⟨xy_A_isDay, xb_A_isDay, 1, (some .boolean), xr_ 1, rfl, ⟨xe_A_isDay, xw_37, ⟨by decide, by decide, by decide +kernel⟩, ⟨Nat.le_of_ble_eq_true rfl, Nat.le_of_ble_eq_true rfl⟩, rfl, rfl⟩, xw_272, Or.inl xw_271, Or.inl ⟨rfl, uA_isDay, cA_isDay l⟩⟩, fun _ h => absurd h List.not_mem_nil⟩) (n, C) h
set_option maxRecDepth 20000 in
set_option maxHeartbeats 2000000 in
theorem cA_isSpan (l : Launch) : xm_Pu l xy_A_isSpan (Cond.code xy_A_isSpan xb_A_isSpan 2 (some .boolean) :: xt_T) (xr_ 2) xk_cl xk_ns xk_tA pA_isSpan fA_isSpan := by
  refine xm_mk_pu (rt := .boolean) (fl := xf_A) (ct := tA_isSpan) (cn := []) (cj := []) (plainFor_of_name (by decide)) xs_A xd_A_isSpan rfl (Or.inr rfl) (lA_isSpan l) (fun _ _ _ _ _ _ _ _ => False) ?_ ?_ ?_ (fun _ _ _ _ _ _ _ _ _ h => h.elim) ?_
  · rintro as M ⟨f, t, rfl⟩; exact Nat.le_of_ble_eq_true rfl
  · rintro as M ⟨f, t, rfl⟩; simp [fA_isSpan]
  · rintro as M v ⟨f, t, rfl⟩ h; first | rfl | (simp [fA_isSpan] at h)
  · rintro as M ⟨f, t, rfl⟩
    refine ⟨400, (And.intro rfl (And.intro (Nat.le_of_ble_eq_true rfl) (And.intro (Nat.le_of_ble_eq_true rfl) (And.intro ?g1_c_1 (And.intro (by decide) (And.intro (fun h4 => (And.intro ?g2_w_24 ?g3_r_24)) (fun h4 => (And.intro rfl (And.intro (Nat.le_of_ble_eq_true rfl) (And.intro (Nat.le_of_ble_eq_true rfl) (And.intro ?g4_c_8 (And.intro (by decide) (And.intro (fun h11 => (And.intro ?g5_w_24 ?g6_r_24)) (fun h11 => (And.intro (by decide) (And.intro (fun h16 => (And.intro ?g7_w_24 ?g8_r_24)) (fun h16 => (And.intro (by decide) (And.intro ?g9_w_24 ?g10_r_24)))))))))))))))))))⟩
    case g1_c_1 =>
      exact ⟨_, rfl⟩
    case g2_w_24 =>
      first | rfl | exact xi_nb
    case g3_r_24 =>
      refine ⟨congrArg (fun z => some (Value.int z)) ?_, rfl⟩
      try simp only [xi_0, xi_n0] at *
      first | exact (xi_t (by grind [Int32.not_lt, Int32.not_le])).symm | exact (xi_f (by grind [Int32.not_lt, Int32.not_le])).symm
    case g4_c_8 =>
      exact ⟨_, rfl⟩
    case g5_w_24 =>
      first | rfl | exact xi_nb
    case g6_r_24 =>
      refine ⟨congrArg (fun z => some (Value.int z)) ?_, rfl⟩
      try simp only [xi_0, xi_n0] at *
      first | exact (xi_t (by grind [Int32.not_lt, Int32.not_le])).symm | exact (xi_f (by grind [Int32.not_lt, Int32.not_le])).symm
    case g7_w_24 =>
      first | rfl | exact xi_nb
    case g8_r_24 =>
      refine ⟨congrArg (fun z => some (Value.int z)) ?_, rfl⟩
      try simp only [xi_0, xi_n0] at *
      first | exact (xi_t (by grind [Int32.not_lt, Int32.not_le])).symm | exact (xi_f (by grind [Int32.not_lt, Int32.not_le])).symm
    case g9_w_24 =>
      first | rfl | exact xi_nb
    case g10_r_24 =>
      refine ⟨congrArg (fun z => some (Value.int z)) ?_, rfl⟩
      try simp only [xi_0, xi_n0] at *
      first | exact (xi_t (by grind [Int32.not_lt, Int32.not_le])).symm | exact (xi_f (by grind [Int32.not_lt, Int32.not_le])).symm
def pA_yearOf (as : List Value) (M : xm_M) : Prop := ∃ d : Int32, as = [.int d]
noncomputable def fA_yearOf (as : List Value) (M : xm_M) : Option Value × xm_M := match as with
  | [.int d] => (some (.int (d / 365)), M)
  | _ => (none, M)
noncomputable abbrev sA_yearOf : xm_C := (1, 1, 0, pA_yearOf, fA_yearOf)
theorem uA_yearOf : ∀ as M, (fA_yearOf as M).2 = M := by
  intro as M
  unfold fA_yearOf
  split <;> rfl
noncomputable def tA_yearOf : List (Nat × xm_C) := []
theorem lA_yearOf (l : Launch) : ∀ n C, (n, C) ∈ tA_yearOf → xm_lkS l "AbsenceRows" xt_T xk_ns (xr_ 0) xk_cl xk_tA n C ∨ xm_lkV l "AbsenceRows" xt_T xk_ns (xr_ 0) xk_cl xk_tA n C := fun n C h => (show ∀ q ∈ tA_yearOf, xm_lkS l "AbsenceRows" xt_T xk_ns (xr_ 0) xk_cl xk_tA q.1 q.2 ∨ xm_lkV l "AbsenceRows" xt_T xk_ns (xr_ 0) xk_cl xk_tA q.1 q.2 from fun _ h => absurd h List.not_mem_nil) (n, C) h
set_option maxRecDepth 20000 in
set_option maxHeartbeats 2000000 in
theorem cA_yearOf (l : Launch) : xm_Pu l xy_A_yearOf (Cond.code xy_A_yearOf xb_A_yearOf 1 (some .int) :: xt_T) (xr_ 0) xk_cl xk_ns xk_tA pA_yearOf fA_yearOf := by
  refine xm_mk_pu (rt := .int) (fl := xf_A) (ct := tA_yearOf) (cn := []) (cj := []) (plainFor_of_name (by decide)) xs_A xd_A_yearOf rfl (Or.inr rfl) (lA_yearOf l) (fun _ _ _ _ _ _ _ _ => False) ?_ ?_ ?_ (fun _ _ _ _ _ _ _ _ _ h => h.elim) ?_
  · rintro as M ⟨d, rfl⟩; exact Nat.le_of_ble_eq_true rfl
  · rintro as M ⟨d, rfl⟩; simp [fA_yearOf]
  · rintro as M v ⟨d, rfl⟩ h; first | rfl | (simp [fA_yearOf] at h)
  · rintro as M ⟨d, rfl⟩
    refine ⟨400, (And.intro ?g1_n_4 (And.intro ?g2_w_5 ?g3_r_5))⟩
    case g1_n_4 =>
      decide
    case g2_w_5 =>
      first | rfl | exact xi_nb
    case g3_r_5 =>
      exact ⟨rfl, rfl⟩
def pA_areHalves (as : List Value) (M : xm_M) : Prop := ∃ h f t : Int32, as = [.int h, .int f, .int t]
noncomputable def fA_areHalves (as : List Value) (M : xm_M) : Option Value × xm_M := match as with
  | [.int h, .int f, .int t] => (some (.int (xi_b ((0 ≤ h ∧ h ≤ 3) ∧ ¬ (h = 3 ∧ f = t)))), M)
  | _ => (none, M)
noncomputable abbrev sA_areHalves : xm_C := (1, 3, 0, pA_areHalves, fA_areHalves)
theorem uA_areHalves : ∀ as M, (fA_areHalves as M).2 = M := by
  intro as M
  unfold fA_areHalves
  split <;> rfl
noncomputable def tA_areHalves : List (Nat × xm_C) := [(61, sA_isWithin)]
theorem lA_areHalves (l : Launch) : ∀ n C, (n, C) ∈ tA_areHalves → xm_lkS l "AbsenceRows" xt_T xk_ns (xr_ 1) xk_cl xk_tA n C ∨ xm_lkV l "AbsenceRows" xt_T xk_ns (xr_ 1) xk_cl xk_tA n C := fun n C h => (show ∀ q ∈ tA_areHalves, xm_lkS l "AbsenceRows" xt_T xk_ns (xr_ 1) xk_cl xk_tA q.1 q.2 ∨ xm_lkV l "AbsenceRows" xt_T xk_ns (xr_ 1) xk_cl xk_tA q.1 q.2 from List.forall_mem_cons.mpr ⟨Or.inl ⟨xy_A_isWithin, xb_A_isWithin, 3, (some .boolean), xr_ 0, rfl, ⟨xe_A_isWithin, xw_37, ⟨by decide, by decide, by decide +kernel⟩, ⟨Nat.le_of_ble_eq_true rfl, Nat.le_of_ble_eq_true rfl⟩, rfl, rfl⟩, xw_269, Or.inl xw_268, Or.inl ⟨rfl, uA_isWithin, cA_isWithin l⟩⟩, fun _ h => absurd h List.not_mem_nil⟩) (n, C) h
set_option maxRecDepth 20000 in
set_option maxHeartbeats 2000000 in
theorem cA_areHalves (l : Launch) : xm_Pu l xy_A_areHalves (Cond.code xy_A_areHalves xb_A_areHalves 3 (some .boolean) :: xt_T) (xr_ 1) xk_cl xk_ns xk_tA pA_areHalves fA_areHalves := by
  refine xm_mk_pu (rt := .boolean) (fl := xf_A) (ct := tA_areHalves) (cn := []) (cj := []) (plainFor_of_name (by decide)) xs_A xd_A_areHalves rfl (Or.inr rfl) (lA_areHalves l) (fun _ _ _ _ _ _ _ _ => False) ?_ ?_ ?_ (fun _ _ _ _ _ _ _ _ _ h => h.elim) ?_
  · rintro as M ⟨h, f, t, rfl⟩; exact Nat.le_of_ble_eq_true rfl
  · rintro as M ⟨h, f, t, rfl⟩; simp [fA_areHalves]
  · rintro as M v ⟨h, f, t, rfl⟩ h; first | rfl | (simp [fA_areHalves] at h)
  · rintro as M ⟨h, f, t, rfl⟩
    refine ⟨400, (And.intro rfl (And.intro (Nat.le_of_ble_eq_true rfl) (And.intro (Nat.le_of_ble_eq_true rfl) (And.intro ?g1_c_3 (And.intro (by decide) (And.intro (fun h6 => (And.intro ?g2_w_24 ?g3_r_24)) (fun h6 => (And.intro (by decide) (And.intro (fun h11 => (And.intro (by decide) (And.intro ?g4_w_24 ?g5_r_24))) (fun h11 => (And.intro (by decide) (And.intro (fun h16 => (And.intro ?g6_w_24 ?g7_r_24)) (fun h16 => (And.intro (by decide) (And.intro ?g8_w_24 ?g9_r_24)))))))))))))))⟩
    case g1_c_3 =>
      exact ⟨_, _, _, rfl⟩
    case g2_w_24 =>
      first | rfl | exact xi_nb
    case g3_r_24 =>
      refine ⟨congrArg (fun z => some (Value.int z)) ?_, rfl⟩
      try simp only [xi_0, xi_n0] at *
      first | exact (xi_t (by grind [Int32.not_lt, Int32.not_le])).symm | exact (xi_f (by grind [Int32.not_lt, Int32.not_le])).symm
    case g4_w_24 =>
      first | rfl | exact xi_nb
    case g5_r_24 =>
      refine ⟨congrArg (fun z => some (Value.int z)) ?_, rfl⟩
      try simp only [xi_0, xi_n0] at *
      first | exact (xi_t (by grind [Int32.not_lt, Int32.not_le])).symm | exact (xi_f (by grind [Int32.not_lt, Int32.not_le])).symm
    case g6_w_24 =>
      first | rfl | exact xi_nb
    case g7_r_24 =>
      refine ⟨congrArg (fun z => some (Value.int z)) ?_, rfl⟩
      try simp only [xi_0, xi_n0] at *
      first | exact (xi_t (by grind [Int32.not_lt, Int32.not_le])).symm | exact (xi_f (by grind [Int32.not_lt, Int32.not_le])).symm
    case g8_w_24 =>
      first | rfl | exact xi_nb
    case g9_r_24 =>
      refine ⟨congrArg (fun z => some (Value.int z)) ?_, rfl⟩
      try simp only [xi_0, xi_n0] at *
      first | exact (xi_t (by grind [Int32.not_lt, Int32.not_le])).symm | exact (xi_f (by grind [Int32.not_lt, Int32.not_le])).symm
def pA_isHalf (as : List Value) (M : xm_M) : Prop := ∃ d f t h : Int32, as = [.int d, .int f, .int t, .int h]
noncomputable def fA_isHalf (as : List Value) (M : xm_M) : Option Value × xm_M := match as with
  | [.int d, .int f, .int t, .int h] => (some (.int (xi_b ((d = f ∧ ¬ h &&& 1 = 0) ∨ (d = t ∧ ¬ h &&& 2 = 0)))), M)
  | _ => (none, M)
noncomputable abbrev sA_isHalf : xm_C := (1, 4, 0, pA_isHalf, fA_isHalf)
theorem uA_isHalf : ∀ as M, (fA_isHalf as M).2 = M := by
  intro as M
  unfold fA_isHalf
  split <;> rfl
noncomputable def tA_isHalf : List (Nat × xm_C) := []
theorem lA_isHalf (l : Launch) : ∀ n C, (n, C) ∈ tA_isHalf → xm_lkS l "AbsenceRows" xt_T xk_ns (xr_ 0) xk_cl xk_tA n C ∨ xm_lkV l "AbsenceRows" xt_T xk_ns (xr_ 0) xk_cl xk_tA n C := fun n C h => (show ∀ q ∈ tA_isHalf, xm_lkS l "AbsenceRows" xt_T xk_ns (xr_ 0) xk_cl xk_tA q.1 q.2 ∨ xm_lkV l "AbsenceRows" xt_T xk_ns (xr_ 0) xk_cl xk_tA q.1 q.2 from fun _ h => absurd h List.not_mem_nil) (n, C) h
set_option maxRecDepth 20000 in
set_option maxHeartbeats 2000000 in
theorem cA_isHalf (l : Launch) : xm_Pu l xy_A_isHalf (Cond.code xy_A_isHalf xb_A_isHalf 4 (some .boolean) :: xt_T) (xr_ 0) xk_cl xk_ns xk_tA pA_isHalf fA_isHalf := by
  refine xm_mk_pu (rt := .boolean) (fl := xf_A) (ct := tA_isHalf) (cn := []) (cj := []) (plainFor_of_name (by decide)) xs_A xd_A_isHalf rfl (Or.inr rfl) (lA_isHalf l) (fun _ _ _ _ _ _ _ _ => False) ?_ ?_ ?_ (fun _ _ _ _ _ _ _ _ _ h => h.elim) ?_
  · rintro as M ⟨d, f, t, h, rfl⟩; exact Nat.le_of_ble_eq_true rfl
  · rintro as M ⟨d, f, t, h, rfl⟩; simp [fA_isHalf]
  · rintro as M v ⟨d, f, t, h, rfl⟩ h; first | rfl | (simp [fA_isHalf] at h)
  · rintro as M ⟨d, f, t, h, rfl⟩
    refine ⟨400, (And.intro (by decide) (And.intro (fun h2 => (And.intro (by decide) (And.intro (fun h13 => (And.intro ?g1_w_27 ?g2_r_27)) (fun h13 => (And.intro (by decide) (And.intro (fun h19 => (And.intro ?g3_w_27 ?g4_r_27)) (fun h19 => (And.intro (by decide) (And.intro ?g5_w_27 ?g6_r_27))))))))) (fun h2 => (And.intro (by decide) (And.intro (fun h8 => (And.intro (by decide) (And.intro ?g7_w_27 ?g8_r_27))) (fun h8 => (And.intro (by decide) (And.intro (fun h13 => (And.intro ?g9_w_27 ?g10_r_27)) (fun h13 => (And.intro (by decide) (And.intro (fun h19 => (And.intro ?g11_w_27 ?g12_r_27)) (fun h19 => (And.intro (by decide) (And.intro ?g13_w_27 ?g14_r_27))))))))))))))⟩
    case g1_w_27 =>
      first | rfl | exact xi_nb
    case g2_r_27 =>
      refine ⟨congrArg (fun z => some (Value.int z)) ?_, rfl⟩
      try simp only [xi_0, xi_n0] at *
      first | exact (xi_t (by grind [Int32.not_lt, Int32.not_le])).symm | exact (xi_f (by grind [Int32.not_lt, Int32.not_le])).symm
    case g3_w_27 =>
      first | rfl | exact xi_nb
    case g4_r_27 =>
      refine ⟨congrArg (fun z => some (Value.int z)) ?_, rfl⟩
      try simp only [xi_0, xi_n0] at *
      first | exact (xi_t (by grind [Int32.not_lt, Int32.not_le])).symm | exact (xi_f (by grind [Int32.not_lt, Int32.not_le])).symm
    case g5_w_27 =>
      first | rfl | exact xi_nb
    case g6_r_27 =>
      refine ⟨congrArg (fun z => some (Value.int z)) ?_, rfl⟩
      try simp only [xi_0, xi_n0] at *
      first | exact (xi_t (by grind [Int32.not_lt, Int32.not_le])).symm | exact (xi_f (by grind [Int32.not_lt, Int32.not_le])).symm
    case g7_w_27 =>
      first | rfl | exact xi_nb
    case g8_r_27 =>
      refine ⟨congrArg (fun z => some (Value.int z)) ?_, rfl⟩
      try simp only [xi_0, xi_n0] at *
      first | exact (xi_t (by grind [Int32.not_lt, Int32.not_le])).symm | exact (xi_f (by grind [Int32.not_lt, Int32.not_le])).symm
    case g9_w_27 =>
      first | rfl | exact xi_nb
    case g10_r_27 =>
      refine ⟨congrArg (fun z => some (Value.int z)) ?_, rfl⟩
      try simp only [xi_0, xi_n0] at *
      first | exact (xi_t (by grind [Int32.not_lt, Int32.not_le])).symm | exact (xi_f (by grind [Int32.not_lt, Int32.not_le])).symm
    case g11_w_27 =>
      first | rfl | exact xi_nb
    case g12_r_27 =>
      refine ⟨congrArg (fun z => some (Value.int z)) ?_, rfl⟩
      try simp only [xi_0, xi_n0] at *
      first | exact (xi_t (by grind [Int32.not_lt, Int32.not_le])).symm | exact (xi_f (by grind [Int32.not_lt, Int32.not_le])).symm
    case g13_w_27 =>
      first | rfl | exact xi_nb
    case g14_r_27 =>
      refine ⟨congrArg (fun z => some (Value.int z)) ?_, rfl⟩
      try simp only [xi_0, xi_n0] at *
      first | exact (xi_t (by grind [Int32.not_lt, Int32.not_le])).symm | exact (xi_f (by grind [Int32.not_lt, Int32.not_le])).symm
def pA_only (as : List Value) (M : xm_M) : Prop := ∃ n : Int32, as = [.int n]
noncomputable def fA_only (as : List Value) (M : xm_M) : Option Value × xm_M := match as with
  | [.int n] => (some (.int (1 <<< (n &&& 31))), M)
  | _ => (none, M)
noncomputable abbrev sA_only : xm_C := (1, 1, 0, pA_only, fA_only)
theorem uA_only : ∀ as M, (fA_only as M).2 = M := by
  intro as M
  unfold fA_only
  split <;> rfl
noncomputable def tA_only : List (Nat × xm_C) := []
theorem lA_only (l : Launch) : ∀ n C, (n, C) ∈ tA_only → xm_lkS l "AbsenceRows" xt_T xk_ns (xr_ 0) xk_cl xk_tA n C ∨ xm_lkV l "AbsenceRows" xt_T xk_ns (xr_ 0) xk_cl xk_tA n C := fun n C h => (show ∀ q ∈ tA_only, xm_lkS l "AbsenceRows" xt_T xk_ns (xr_ 0) xk_cl xk_tA q.1 q.2 ∨ xm_lkV l "AbsenceRows" xt_T xk_ns (xr_ 0) xk_cl xk_tA q.1 q.2 from fun _ h => absurd h List.not_mem_nil) (n, C) h
set_option maxRecDepth 20000 in
set_option maxHeartbeats 2000000 in
theorem cA_only (l : Launch) : xm_Pu l xy_A_only (Cond.code xy_A_only xb_A_only 1 (some .int) :: xt_T) (xr_ 0) xk_cl xk_ns xk_tA pA_only fA_only := by
  refine xm_mk_pu (rt := .int) (fl := xf_A) (ct := tA_only) (cn := []) (cj := []) (plainFor_of_name (by decide)) xs_A xd_A_only rfl (Or.inr rfl) (lA_only l) (fun _ _ _ _ _ _ _ _ => False) ?_ ?_ ?_ (fun _ _ _ _ _ _ _ _ _ h => h.elim) ?_
  · rintro as M ⟨n, rfl⟩; exact Nat.le_of_ble_eq_true rfl
  · rintro as M ⟨n, rfl⟩; simp [fA_only]
  · rintro as M v ⟨n, rfl⟩ h; first | rfl | (simp [fA_only] at h)
  · rintro as M ⟨n, rfl⟩
    refine ⟨400, (And.intro ?g1_w_3 ?g2_r_3)⟩
    case g1_w_3 =>
      first | rfl | exact xi_nb
    case g2_r_3 =>
      exact ⟨rfl, rfl⟩
def pA_holds (as : List Value) (M : xm_M) : Prop := ∃ b n : Int32, as = [.int b, .int n]
noncomputable def fA_holds (as : List Value) (M : xm_M) : Option Value × xm_M := match as with
  | [.int b, .int n] => (some (.int (xi_b (¬ b &&& ((1 : Int32) <<< (n &&& 31)) = 0))), M)
  | _ => (none, M)
noncomputable abbrev sA_holds : xm_C := (1, 2, 0, pA_holds, fA_holds)
theorem uA_holds : ∀ as M, (fA_holds as M).2 = M := by
  intro as M
  unfold fA_holds
  split <;> rfl
noncomputable def tA_holds : List (Nat × xm_C) := [(154, sA_only)]
theorem lA_holds (l : Launch) : ∀ n C, (n, C) ∈ tA_holds → xm_lkS l "AbsenceRows" xt_T xk_ns (xr_ 1) xk_cl xk_tA n C ∨ xm_lkV l "AbsenceRows" xt_T xk_ns (xr_ 1) xk_cl xk_tA n C := fun n C h => (show ∀ q ∈ tA_holds, xm_lkS l "AbsenceRows" xt_T xk_ns (xr_ 1) xk_cl xk_tA q.1 q.2 ∨ xm_lkV l "AbsenceRows" xt_T xk_ns (xr_ 1) xk_cl xk_tA q.1 q.2 from List.forall_mem_cons.mpr ⟨Or.inl ⟨xy_A_only, xb_A_only, 1, (some .int), xr_ 0, rfl, ⟨xe_A_only, xw_37, ⟨by decide, by decide, by decide +kernel⟩, ⟨Nat.le_of_ble_eq_true rfl, Nat.le_of_ble_eq_true rfl⟩, rfl, rfl⟩, xw_529, Or.inl xw_528, Or.inl ⟨rfl, uA_only, cA_only l⟩⟩, fun _ h => absurd h List.not_mem_nil⟩) (n, C) h
set_option maxRecDepth 20000 in
set_option maxHeartbeats 2000000 in
theorem cA_holds (l : Launch) : xm_Pu l xy_A_holds (Cond.code xy_A_holds xb_A_holds 2 (some .boolean) :: xt_T) (xr_ 1) xk_cl xk_ns xk_tA pA_holds fA_holds := by
  refine xm_mk_pu (rt := .boolean) (fl := xf_A) (ct := tA_holds) (cn := []) (cj := []) (plainFor_of_name (by decide)) xs_A xd_A_holds rfl (Or.inr rfl) (lA_holds l) (fun _ _ _ _ _ _ _ _ => False) ?_ ?_ ?_ (fun _ _ _ _ _ _ _ _ _ h => h.elim) ?_
  · rintro as M ⟨b, n, rfl⟩; exact Nat.le_of_ble_eq_true rfl
  · rintro as M ⟨b, n, rfl⟩; simp [fA_holds]
  · rintro as M v ⟨b, n, rfl⟩ h; first | rfl | (simp [fA_holds] at h)
  · rintro as M ⟨b, n, rfl⟩
    refine ⟨400, (And.intro rfl (And.intro (Nat.le_of_ble_eq_true rfl) (And.intro (Nat.le_of_ble_eq_true rfl) (And.intro ?g1_c_2 (And.intro (by decide) (And.intro (fun h6 => (And.intro ?g2_w_14 ?g3_r_14)) (fun h6 => (And.intro (by decide) (And.intro ?g4_w_14 ?g5_r_14)))))))))⟩
    case g1_c_2 =>
      exact ⟨_, rfl⟩
    case g2_w_14 =>
      first | rfl | exact xi_nb
    case g3_r_14 =>
      refine ⟨congrArg (fun z => some (Value.int z)) ?_, rfl⟩
      try simp only [xi_0, xi_n0] at *
      first | exact (xi_t (by grind [Int32.not_lt, Int32.not_le])).symm | exact (xi_f (by grind [Int32.not_lt, Int32.not_le])).symm
    case g4_w_14 =>
      first | rfl | exact xi_nb
    case g5_r_14 =>
      refine ⟨congrArg (fun z => some (Value.int z)) ?_, rfl⟩
      try simp only [xi_0, xi_n0] at *
      first | exact (xi_t (by grind [Int32.not_lt, Int32.not_le])).symm | exact (xi_f (by grind [Int32.not_lt, Int32.not_le])).symm
def pA_partsOfDay (as : List Value) (M : xm_M) : Prop := ∃ d : Int32, as = [.int d]
noncomputable def fA_partsOfDay (as : List Value) (M : xm_M) : Option Value × xm_M := match as with
  | [.int d] => (some (.int (730 * d)), M)
  | _ => (none, M)
noncomputable abbrev sA_partsOfDay : xm_C := (1, 1, 0, pA_partsOfDay, fA_partsOfDay)
theorem uA_partsOfDay : ∀ as M, (fA_partsOfDay as M).2 = M := by
  intro as M
  unfold fA_partsOfDay
  split <;> rfl
noncomputable def tA_partsOfDay : List (Nat × xm_C) := []
theorem lA_partsOfDay (l : Launch) : ∀ n C, (n, C) ∈ tA_partsOfDay → xm_lkS l "AbsenceRows" xt_T xk_ns (xr_ 0) xk_cl xk_tA n C ∨ xm_lkV l "AbsenceRows" xt_T xk_ns (xr_ 0) xk_cl xk_tA n C := fun n C h => (show ∀ q ∈ tA_partsOfDay, xm_lkS l "AbsenceRows" xt_T xk_ns (xr_ 0) xk_cl xk_tA q.1 q.2 ∨ xm_lkV l "AbsenceRows" xt_T xk_ns (xr_ 0) xk_cl xk_tA q.1 q.2 from fun _ h => absurd h List.not_mem_nil) (n, C) h
set_option maxRecDepth 20000 in
set_option maxHeartbeats 2000000 in
theorem cA_partsOfDay (l : Launch) : xm_Pu l xy_A_partsOfDay (Cond.code xy_A_partsOfDay xb_A_partsOfDay 1 (some .int) :: xt_T) (xr_ 0) xk_cl xk_ns xk_tA pA_partsOfDay fA_partsOfDay := by
  refine xm_mk_pu (rt := .int) (fl := xf_A) (ct := tA_partsOfDay) (cn := []) (cj := []) (plainFor_of_name (by decide)) xs_A xd_A_partsOfDay rfl (Or.inr rfl) (lA_partsOfDay l) (fun _ _ _ _ _ _ _ _ => False) ?_ ?_ ?_ (fun _ _ _ _ _ _ _ _ _ h => h.elim) ?_
  · rintro as M ⟨d, rfl⟩; exact Nat.le_of_ble_eq_true rfl
  · rintro as M ⟨d, rfl⟩; simp [fA_partsOfDay]
  · rintro as M v ⟨d, rfl⟩ h; first | rfl | (simp [fA_partsOfDay] at h)
  · rintro as M ⟨d, rfl⟩
    refine ⟨400, (And.intro ?g1_w_5 ?g2_r_5)⟩
    case g1_w_5 =>
      first | rfl | exact xi_nb
    case g2_r_5 =>
      exact ⟨rfl, rfl⟩
def pA_partsOfHalfDay (as : List Value) (M : xm_M) : Prop := ∃ d : Int32, as = [.int d]
noncomputable def fA_partsOfHalfDay (as : List Value) (M : xm_M) : Option Value × xm_M := match as with
  | [.int d] => (some (.int (365 * d)), M)
  | _ => (none, M)
noncomputable abbrev sA_partsOfHalfDay : xm_C := (1, 1, 0, pA_partsOfHalfDay, fA_partsOfHalfDay)
theorem uA_partsOfHalfDay : ∀ as M, (fA_partsOfHalfDay as M).2 = M := by
  intro as M
  unfold fA_partsOfHalfDay
  split <;> rfl
noncomputable def tA_partsOfHalfDay : List (Nat × xm_C) := []
theorem lA_partsOfHalfDay (l : Launch) : ∀ n C, (n, C) ∈ tA_partsOfHalfDay → xm_lkS l "AbsenceRows" xt_T xk_ns (xr_ 0) xk_cl xk_tA n C ∨ xm_lkV l "AbsenceRows" xt_T xk_ns (xr_ 0) xk_cl xk_tA n C := fun n C h => (show ∀ q ∈ tA_partsOfHalfDay, xm_lkS l "AbsenceRows" xt_T xk_ns (xr_ 0) xk_cl xk_tA q.1 q.2 ∨ xm_lkV l "AbsenceRows" xt_T xk_ns (xr_ 0) xk_cl xk_tA q.1 q.2 from fun _ h => absurd h List.not_mem_nil) (n, C) h
set_option maxRecDepth 20000 in
set_option maxHeartbeats 2000000 in
theorem cA_partsOfHalfDay (l : Launch) : xm_Pu l xy_A_partsOfHalfDay (Cond.code xy_A_partsOfHalfDay xb_A_partsOfHalfDay 1 (some .int) :: xt_T) (xr_ 0) xk_cl xk_ns xk_tA pA_partsOfHalfDay fA_partsOfHalfDay := by
  refine xm_mk_pu (rt := .int) (fl := xf_A) (ct := tA_partsOfHalfDay) (cn := []) (cj := []) (plainFor_of_name (by decide)) xs_A xd_A_partsOfHalfDay rfl (Or.inr rfl) (lA_partsOfHalfDay l) (fun _ _ _ _ _ _ _ _ => False) ?_ ?_ ?_ (fun _ _ _ _ _ _ _ _ _ h => h.elim) ?_
  · rintro as M ⟨d, rfl⟩; exact Nat.le_of_ble_eq_true rfl
  · rintro as M ⟨d, rfl⟩; simp [fA_partsOfHalfDay]
  · rintro as M v ⟨d, rfl⟩ h; first | rfl | (simp [fA_partsOfHalfDay] at h)
  · rintro as M ⟨d, rfl⟩
    refine ⟨400, (And.intro ?g1_w_5 ?g2_r_5)⟩
    case g1_w_5 =>
      first | rfl | exact xi_nb
    case g2_r_5 =>
      exact ⟨rfl, rfl⟩
def pP_has (as : List Value) (M : xm_M) : Prop := ∃ x : Int32, as = [.ref 2, .int x]
noncomputable def fP_has (as : List Value) (M : xm_M) : Option Value × xm_M := match as with
  | [_, .int x] => (some (.int (xi_b (0 ≤ x ∧ x ≤ M 2 0 - 1))), M)
  | _ => (none, M)
noncomputable abbrev sP_has : xm_C := (0, 2, 0, pP_has, fP_has)
theorem uP_has : ∀ as M, (fP_has as M).2 = M := by
  intro as M
  unfold fP_has
  split <;> rfl
theorem vP_has : ∀ as M, pP_has as M → ∃ as1, as = .ref 2 :: as1 := by
  rintro as M ⟨x, rfl⟩
  exact ⟨_, rfl⟩
noncomputable def tP_has : List (Nat × xm_C) := [(37, sA_isWithin)]
theorem lP_has (l : Launch) : ∀ n C, (n, C) ∈ tP_has → xm_lkS l "AbsenceRows$Persons" xt_T xk_ns (xr_ 1) xk_cl xk_tA n C ∨ xm_lkV l "AbsenceRows$Persons" xt_T xk_ns (xr_ 1) xk_cl xk_tA n C := fun n C h => (show ∀ q ∈ tP_has, xm_lkS l "AbsenceRows$Persons" xt_T xk_ns (xr_ 1) xk_cl xk_tA q.1 q.2 ∨ xm_lkV l "AbsenceRows$Persons" xt_T xk_ns (xr_ 1) xk_cl xk_tA q.1 q.2 from List.forall_mem_cons.mpr ⟨Or.inl ⟨xy_A_isWithin, xb_A_isWithin, 3, (some .boolean), xr_ 0, rfl, ⟨xe_A_isWithin, xw_37, ⟨by decide, by decide, by decide +kernel⟩, ⟨Nat.le_of_ble_eq_true rfl, Nat.le_of_ble_eq_true rfl⟩, rfl, rfl⟩, xw_269, Or.inr ⟨"AbsenceRows", xn_6⟩, Or.inl ⟨rfl, uA_isWithin, cA_isWithin l⟩⟩, fun _ h => absurd h List.not_mem_nil⟩) (n, C) h
set_option maxRecDepth 20000 in
set_option maxHeartbeats 2000000 in
theorem cP_has (l : Launch) : xm_Pu l xy_P_has (Cond.code xy_P_has xb_P_has 2 (some .boolean) :: xt_T) (xr_ 1) xk_cl xk_ns xk_tA pP_has fP_has := by
  refine xm_mk_pu (rt := .boolean) (fl := xf_P) (ct := tP_has) (cn := []) (cj := []) (plainFor_of_name (by decide)) xs_P xd_P_has rfl (Or.inr rfl) (lP_has l) (fun _ _ _ _ _ _ _ _ => False) ?_ ?_ ?_ (fun _ _ _ _ _ _ _ _ _ h => h.elim) ?_
  · rintro as M ⟨x, rfl⟩; exact Nat.le_of_ble_eq_true rfl
  · rintro as M ⟨x, rfl⟩; simp [fP_has]
  · rintro as M v ⟨x, rfl⟩ h; first | rfl | (simp [fP_has] at h)
  · rintro as M ⟨x, rfl⟩
    refine ⟨400, (And.intro rfl (And.intro rfl (And.intro (Nat.le_of_ble_eq_true rfl) (And.intro (Nat.le_of_ble_eq_true rfl) (And.intro ?g1_c_8 (And.intro ?g2_w_11 ?g3_r_11))))))⟩
    case g1_c_8 =>
      exact ⟨_, _, _, rfl⟩
    case g2_w_11 =>
      first | rfl | exact xi_nb
    case g3_r_11 =>
      exact ⟨rfl, rfl⟩
def pW_has (as : List Value) (M : xm_M) : Prop := ∃ x : Int32, as = [.ref 3, .int x]
noncomputable def fW_has (as : List Value) (M : xm_M) : Option Value × xm_M := match as with
  | [_, .int x] => (some (.int (xi_b (0 ≤ x ∧ x ≤ M 3 0 - 1))), M)
  | _ => (none, M)
noncomputable abbrev sW_has : xm_C := (0, 2, 0, pW_has, fW_has)
theorem uW_has : ∀ as M, (fW_has as M).2 = M := by
  intro as M
  unfold fW_has
  split <;> rfl
theorem vW_has : ∀ as M, pW_has as M → ∃ as1, as = .ref 3 :: as1 := by
  rintro as M ⟨x, rfl⟩
  exact ⟨_, rfl⟩
noncomputable def tW_has : List (Nat × xm_C) := [(25, sA_isWithin)]
theorem lW_has (l : Launch) : ∀ n C, (n, C) ∈ tW_has → xm_lkS l "AbsenceRows$Crews" xt_T xk_ns (xr_ 1) xk_cl xk_tA n C ∨ xm_lkV l "AbsenceRows$Crews" xt_T xk_ns (xr_ 1) xk_cl xk_tA n C := fun n C h => (show ∀ q ∈ tW_has, xm_lkS l "AbsenceRows$Crews" xt_T xk_ns (xr_ 1) xk_cl xk_tA q.1 q.2 ∨ xm_lkV l "AbsenceRows$Crews" xt_T xk_ns (xr_ 1) xk_cl xk_tA q.1 q.2 from List.forall_mem_cons.mpr ⟨Or.inl ⟨xy_A_isWithin, xb_A_isWithin, 3, (some .boolean), xr_ 0, rfl, ⟨xe_A_isWithin, xw_37, ⟨by decide, by decide, by decide +kernel⟩, ⟨Nat.le_of_ble_eq_true rfl, Nat.le_of_ble_eq_true rfl⟩, rfl, rfl⟩, xw_269, Or.inr ⟨"AbsenceRows", xn_8⟩, Or.inl ⟨rfl, uA_isWithin, cA_isWithin l⟩⟩, fun _ h => absurd h List.not_mem_nil⟩) (n, C) h
set_option maxRecDepth 20000 in
set_option maxHeartbeats 2000000 in
theorem cW_has (l : Launch) : xm_Pu l xy_W_has (Cond.code xy_W_has xb_W_has 2 (some .boolean) :: xt_T) (xr_ 1) xk_cl xk_ns xk_tA pW_has fW_has := by
  refine xm_mk_pu (rt := .boolean) (fl := xf_W) (ct := tW_has) (cn := []) (cj := []) (plainFor_of_name (by decide)) xs_W xd_W_has rfl (Or.inr rfl) (lW_has l) (fun _ _ _ _ _ _ _ _ => False) ?_ ?_ ?_ (fun _ _ _ _ _ _ _ _ _ h => h.elim) ?_
  · rintro as M ⟨x, rfl⟩; exact Nat.le_of_ble_eq_true rfl
  · rintro as M ⟨x, rfl⟩; simp [fW_has]
  · rintro as M v ⟨x, rfl⟩ h; first | rfl | (simp [fW_has] at h)
  · rintro as M ⟨x, rfl⟩
    refine ⟨400, (And.intro rfl (And.intro rfl (And.intro (Nat.le_of_ble_eq_true rfl) (And.intro (Nat.le_of_ble_eq_true rfl) (And.intro ?g1_c_8 (And.intro ?g2_w_11 ?g3_r_11))))))⟩
    case g1_c_8 =>
      exact ⟨_, _, _, rfl⟩
    case g2_w_11 =>
      first | rfl | exact xi_nb
    case g3_r_11 =>
      exact ⟨rfl, rfl⟩
def pK_has (as : List Value) (M : xm_M) : Prop := ∃ x : Int32, as = [.ref 4, .int x]
noncomputable def fK_has (as : List Value) (M : xm_M) : Option Value × xm_M := match as with
  | [_, .int x] => (some (.int (xi_b (0 ≤ x ∧ x ≤ M 4 0 - 1))), M)
  | _ => (none, M)
noncomputable abbrev sK_has : xm_C := (0, 2, 0, pK_has, fK_has)
theorem uK_has : ∀ as M, (fK_has as M).2 = M := by
  intro as M
  unfold fK_has
  split <;> rfl
theorem vK_has : ∀ as M, pK_has as M → ∃ as1, as = .ref 4 :: as1 := by
  rintro as M ⟨x, rfl⟩
  exact ⟨_, rfl⟩
noncomputable def tK_has : List (Nat × xm_C) := [(37, sA_isWithin)]
theorem lK_has (l : Launch) : ∀ n C, (n, C) ∈ tK_has → xm_lkS l "AbsenceRows$Asks" xt_T xk_ns (xr_ 1) xk_cl xk_tA n C ∨ xm_lkV l "AbsenceRows$Asks" xt_T xk_ns (xr_ 1) xk_cl xk_tA n C := fun n C h => (show ∀ q ∈ tK_has, xm_lkS l "AbsenceRows$Asks" xt_T xk_ns (xr_ 1) xk_cl xk_tA q.1 q.2 ∨ xm_lkV l "AbsenceRows$Asks" xt_T xk_ns (xr_ 1) xk_cl xk_tA q.1 q.2 from List.forall_mem_cons.mpr ⟨Or.inl ⟨xy_A_isWithin, xb_A_isWithin, 3, (some .boolean), xr_ 0, rfl, ⟨xe_A_isWithin, xw_37, ⟨by decide, by decide, by decide +kernel⟩, ⟨Nat.le_of_ble_eq_true rfl, Nat.le_of_ble_eq_true rfl⟩, rfl, rfl⟩, xw_269, Or.inr ⟨"AbsenceRows", xn_9⟩, Or.inl ⟨rfl, uA_isWithin, cA_isWithin l⟩⟩, fun _ h => absurd h List.not_mem_nil⟩) (n, C) h
set_option maxRecDepth 20000 in
set_option maxHeartbeats 2000000 in
theorem cK_has (l : Launch) : xm_Pu l xy_K_has (Cond.code xy_K_has xb_K_has 2 (some .boolean) :: xt_T) (xr_ 1) xk_cl xk_ns xk_tA pK_has fK_has := by
  refine xm_mk_pu (rt := .boolean) (fl := xf_K) (ct := tK_has) (cn := []) (cj := []) (plainFor_of_name (by decide)) xs_K xd_K_has rfl (Or.inr rfl) (lK_has l) (fun _ _ _ _ _ _ _ _ => False) ?_ ?_ ?_ (fun _ _ _ _ _ _ _ _ _ h => h.elim) ?_
  · rintro as M ⟨x, rfl⟩; exact Nat.le_of_ble_eq_true rfl
  · rintro as M ⟨x, rfl⟩; simp [fK_has]
  · rintro as M v ⟨x, rfl⟩ h; first | rfl | (simp [fK_has] at h)
  · rintro as M ⟨x, rfl⟩
    refine ⟨400, (And.intro rfl (And.intro rfl (And.intro (Nat.le_of_ble_eq_true rfl) (And.intro (Nat.le_of_ble_eq_true rfl) (And.intro ?g1_c_8 (And.intro ?g2_w_11 ?g3_r_11))))))⟩
    case g1_c_8 =>
      exact ⟨_, _, _, rfl⟩
    case g2_w_11 =>
      first | rfl | exact xi_nb
    case g3_r_11 =>
      exact ⟨rfl, rfl⟩
def pH_has (as : List Value) (M : xm_M) : Prop := ∃ x : Int32, as = [.ref 5, .int x]
noncomputable def fH_has (as : List Value) (M : xm_M) : Option Value × xm_M := match as with
  | [_, .int x] => (some (.int (xi_b (0 ≤ x ∧ x ≤ M 5 0 - 1))), M)
  | _ => (none, M)
noncomputable abbrev sH_has : xm_C := (0, 2, 0, pH_has, fH_has)
theorem uH_has : ∀ as M, (fH_has as M).2 = M := by
  intro as M
  unfold fH_has
  split <;> rfl
theorem vH_has : ∀ as M, pH_has as M → ∃ as1, as = .ref 5 :: as1 := by
  rintro as M ⟨x, rfl⟩
  exact ⟨_, rfl⟩
noncomputable def tH_has : List (Nat × xm_C) := [(25, sA_isWithin)]
theorem lH_has (l : Launch) : ∀ n C, (n, C) ∈ tH_has → xm_lkS l "AbsenceRows$HeldRows" xt_T xk_ns (xr_ 1) xk_cl xk_tA n C ∨ xm_lkV l "AbsenceRows$HeldRows" xt_T xk_ns (xr_ 1) xk_cl xk_tA n C := fun n C h => (show ∀ q ∈ tH_has, xm_lkS l "AbsenceRows$HeldRows" xt_T xk_ns (xr_ 1) xk_cl xk_tA q.1 q.2 ∨ xm_lkV l "AbsenceRows$HeldRows" xt_T xk_ns (xr_ 1) xk_cl xk_tA q.1 q.2 from List.forall_mem_cons.mpr ⟨Or.inl ⟨xy_A_isWithin, xb_A_isWithin, 3, (some .boolean), xr_ 0, rfl, ⟨xe_A_isWithin, xw_37, ⟨by decide, by decide, by decide +kernel⟩, ⟨Nat.le_of_ble_eq_true rfl, Nat.le_of_ble_eq_true rfl⟩, rfl, rfl⟩, xw_269, Or.inr ⟨"AbsenceRows", xn_14⟩, Or.inl ⟨rfl, uA_isWithin, cA_isWithin l⟩⟩, fun _ h => absurd h List.not_mem_nil⟩) (n, C) h
set_option maxRecDepth 20000 in
set_option maxHeartbeats 2000000 in
theorem cH_has (l : Launch) : xm_Pu l xy_H_has (Cond.code xy_H_has xb_H_has 2 (some .boolean) :: xt_T) (xr_ 1) xk_cl xk_ns xk_tA pH_has fH_has := by
  refine xm_mk_pu (rt := .boolean) (fl := xf_H) (ct := tH_has) (cn := []) (cj := []) (plainFor_of_name (by decide)) xs_H xd_H_has rfl (Or.inr rfl) (lH_has l) (fun _ _ _ _ _ _ _ _ => False) ?_ ?_ ?_ (fun _ _ _ _ _ _ _ _ _ h => h.elim) ?_
  · rintro as M ⟨x, rfl⟩; exact Nat.le_of_ble_eq_true rfl
  · rintro as M ⟨x, rfl⟩; simp [fH_has]
  · rintro as M v ⟨x, rfl⟩ h; first | rfl | (simp [fH_has] at h)
  · rintro as M ⟨x, rfl⟩
    refine ⟨400, (And.intro rfl (And.intro rfl (And.intro (Nat.le_of_ble_eq_true rfl) (And.intro (Nat.le_of_ble_eq_true rfl) (And.intro ?g1_c_8 (And.intro ?g2_w_11 ?g3_r_11))))))⟩
    case g1_c_8 =>
      exact ⟨_, _, _, rfl⟩
    case g2_w_11 =>
      first | rfl | exact xi_nb
    case g3_r_11 =>
      exact ⟨rfl, rfl⟩
def pL_has (as : List Value) (M : xm_M) : Prop := ∃ x : Int32, as = [.ref 6, .int x]
noncomputable def fL_has (as : List Value) (M : xm_M) : Option Value × xm_M := match as with
  | [_, .int x] => (some (.int (xi_b (0 ≤ x ∧ x ≤ M 6 0 - 1))), M)
  | _ => (none, M)
noncomputable abbrev sL_has : xm_C := (0, 2, 0, pL_has, fL_has)
theorem uL_has : ∀ as M, (fL_has as M).2 = M := by
  intro as M
  unfold fL_has
  split <;> rfl
theorem vL_has : ∀ as M, pL_has as M → ∃ as1, as = .ref 6 :: as1 := by
  rintro as M ⟨x, rfl⟩
  exact ⟨_, rfl⟩
noncomputable def tL_has : List (Nat × xm_C) := [(34, sA_isWithin)]
theorem lL_has (l : Launch) : ∀ n C, (n, C) ∈ tL_has → xm_lkS l "AbsenceRows$Calls" xt_T xk_ns (xr_ 1) xk_cl xk_tA n C ∨ xm_lkV l "AbsenceRows$Calls" xt_T xk_ns (xr_ 1) xk_cl xk_tA n C := fun n C h => (show ∀ q ∈ tL_has, xm_lkS l "AbsenceRows$Calls" xt_T xk_ns (xr_ 1) xk_cl xk_tA q.1 q.2 ∨ xm_lkV l "AbsenceRows$Calls" xt_T xk_ns (xr_ 1) xk_cl xk_tA q.1 q.2 from List.forall_mem_cons.mpr ⟨Or.inl ⟨xy_A_isWithin, xb_A_isWithin, 3, (some .boolean), xr_ 0, rfl, ⟨xe_A_isWithin, xw_37, ⟨by decide, by decide, by decide +kernel⟩, ⟨Nat.le_of_ble_eq_true rfl, Nat.le_of_ble_eq_true rfl⟩, rfl, rfl⟩, xw_269, Or.inr ⟨"AbsenceRows", xn_15⟩, Or.inl ⟨rfl, uA_isWithin, cA_isWithin l⟩⟩, fun _ h => absurd h List.not_mem_nil⟩) (n, C) h
set_option maxRecDepth 20000 in
set_option maxHeartbeats 2000000 in
theorem cL_has (l : Launch) : xm_Pu l xy_L_has (Cond.code xy_L_has xb_L_has 2 (some .boolean) :: xt_T) (xr_ 1) xk_cl xk_ns xk_tA pL_has fL_has := by
  refine xm_mk_pu (rt := .boolean) (fl := xf_L) (ct := tL_has) (cn := []) (cj := []) (plainFor_of_name (by decide)) xs_L xd_L_has rfl (Or.inr rfl) (lL_has l) (fun _ _ _ _ _ _ _ _ => False) ?_ ?_ ?_ (fun _ _ _ _ _ _ _ _ _ h => h.elim) ?_
  · rintro as M ⟨x, rfl⟩; exact Nat.le_of_ble_eq_true rfl
  · rintro as M ⟨x, rfl⟩; simp [fL_has]
  · rintro as M v ⟨x, rfl⟩ h; first | rfl | (simp [fL_has] at h)
  · rintro as M ⟨x, rfl⟩
    refine ⟨400, (And.intro rfl (And.intro rfl (And.intro (Nat.le_of_ble_eq_true rfl) (And.intro (Nat.le_of_ble_eq_true rfl) (And.intro ?g1_c_8 (And.intro ?g2_w_11 ?g3_r_11))))))⟩
    case g1_c_8 =>
      exact ⟨_, _, _, rfl⟩
    case g2_w_11 =>
      first | rfl | exact xi_nb
    case g3_r_11 =>
      exact ⟨rfl, rfl⟩
def pJ_max (as : List Value) (M : xm_M) : Prop := ∃ x y : Int32, as = [.int x, .int y]
noncomputable def fJ_max (as : List Value) (M : xm_M) : Option Value × xm_M := match as with
  | [.int x, .int y] => (some (.int (if x < y then y else x)), M)
  | _ => (none, M)
noncomputable abbrev sJ_max : xm_C := (1, 2, 0, pJ_max, fJ_max)
theorem uJ_max : ∀ as M, (fJ_max as M).2 = M := by
  intro as M
  unfold fJ_max
  split <;> rfl
noncomputable def tJ_max : List (Nat × xm_C) := []
theorem lJ_max (l : Launch) : ∀ n C, (n, C) ∈ tJ_max → xm_lkS l "java/lang/Math" xt_T xk_ns (xr_ 0) xk_cl xk_tA n C ∨ xm_lkV l "java/lang/Math" xt_T xk_ns (xr_ 0) xk_cl xk_tA n C := fun n C h => (show ∀ q ∈ tJ_max, xm_lkS l "java/lang/Math" xt_T xk_ns (xr_ 0) xk_cl xk_tA q.1 q.2 ∨ xm_lkV l "java/lang/Math" xt_T xk_ns (xr_ 0) xk_cl xk_tA q.1 q.2 from fun _ h => absurd h List.not_mem_nil) (n, C) h
set_option maxRecDepth 20000 in
set_option maxHeartbeats 2000000 in
theorem cJ_max (l : Launch) : xm_Pu l xy_J_max (Cond.code xy_J_max xb_J_max 2 (some .int) :: xt_T) (xr_ 0) xk_cl xk_ns xk_tA pJ_max fJ_max := by
  refine xm_mk_pu (rt := .int) (fl := []) (ct := tJ_max) (cn := []) (cj := []) (by decide +kernel) xs_J xd_J_max rfl (Or.inr rfl) (lJ_max l) (fun _ _ _ _ _ _ _ _ => False) ?_ ?_ ?_ (fun _ _ _ _ _ _ _ _ _ h => h.elim) ?_
  · rintro as M ⟨x, y, rfl⟩; exact Nat.le_of_ble_eq_true rfl
  · rintro as M ⟨x, y, rfl⟩; simp [fJ_max]
  · rintro as M v ⟨x, y, rfl⟩ h; first | rfl | (simp [fJ_max] at h)
  · rintro as M ⟨x, y, rfl⟩
    refine ⟨400, (And.intro (by decide) (And.intro (fun h2 => (And.intro ?g1_w_10 ?g2_r_10)) (fun h2 => (And.intro (by decide) (And.intro ?g3_w_10 ?g4_r_10)))))⟩
    case g1_w_10 =>
      first | rfl | exact xi_nb
    case g2_r_10 =>
      refine ⟨congrArg (fun z => some (Value.int z)) ?_, rfl⟩
      grind [Int32.not_lt, Int32.not_le]
    case g3_w_10 =>
      first | rfl | exact xi_nb
    case g4_r_10 =>
      refine ⟨congrArg (fun z => some (Value.int z)) ?_, rfl⟩
      grind [Int32.not_lt, Int32.not_le]
def pJ_min (as : List Value) (M : xm_M) : Prop := ∃ x y : Int32, as = [.int x, .int y]
noncomputable def fJ_min (as : List Value) (M : xm_M) : Option Value × xm_M := match as with
  | [.int x, .int y] => (some (.int (if y < x then y else x)), M)
  | _ => (none, M)
noncomputable abbrev sJ_min : xm_C := (1, 2, 0, pJ_min, fJ_min)
theorem uJ_min : ∀ as M, (fJ_min as M).2 = M := by
  intro as M
  unfold fJ_min
  split <;> rfl
noncomputable def tJ_min : List (Nat × xm_C) := []
theorem lJ_min (l : Launch) : ∀ n C, (n, C) ∈ tJ_min → xm_lkS l "java/lang/Math" xt_T xk_ns (xr_ 0) xk_cl xk_tA n C ∨ xm_lkV l "java/lang/Math" xt_T xk_ns (xr_ 0) xk_cl xk_tA n C := fun n C h => (show ∀ q ∈ tJ_min, xm_lkS l "java/lang/Math" xt_T xk_ns (xr_ 0) xk_cl xk_tA q.1 q.2 ∨ xm_lkV l "java/lang/Math" xt_T xk_ns (xr_ 0) xk_cl xk_tA q.1 q.2 from fun _ h => absurd h List.not_mem_nil) (n, C) h
set_option maxRecDepth 20000 in
set_option maxHeartbeats 2000000 in
theorem cJ_min (l : Launch) : xm_Pu l xy_J_min (Cond.code xy_J_min xb_J_min 2 (some .int) :: xt_T) (xr_ 0) xk_cl xk_ns xk_tA pJ_min fJ_min := by
  refine xm_mk_pu (rt := .int) (fl := []) (ct := tJ_min) (cn := []) (cj := []) (by decide +kernel) xs_J xd_J_min rfl (Or.inr rfl) (lJ_min l) (fun _ _ _ _ _ _ _ _ => False) ?_ ?_ ?_ (fun _ _ _ _ _ _ _ _ _ h => h.elim) ?_
  · rintro as M ⟨x, y, rfl⟩; exact Nat.le_of_ble_eq_true rfl
  · rintro as M ⟨x, y, rfl⟩; simp [fJ_min]
  · rintro as M v ⟨x, y, rfl⟩ h; first | rfl | (simp [fJ_min] at h)
  · rintro as M ⟨x, y, rfl⟩
    refine ⟨400, (And.intro (by decide) (And.intro (fun h2 => (And.intro ?g1_w_10 ?g2_r_10)) (fun h2 => (And.intro (by decide) (And.intro ?g3_w_10 ?g4_r_10)))))⟩
    case g1_w_10 =>
      first | rfl | exact xi_nb
    case g2_r_10 =>
      refine ⟨congrArg (fun z => some (Value.int z)) ?_, rfl⟩
      grind [Int32.not_lt, Int32.not_le]
    case g3_w_10 =>
      first | rfl | exact xi_nb
    case g4_r_10 =>
      refine ⟨congrArg (fun z => some (Value.int z)) ?_, rfl⟩
      grind [Int32.not_lt, Int32.not_le]
def pJ_abs (as : List Value) (M : xm_M) : Prop := ∃ x : Int32, as = [.int x]
noncomputable def fJ_abs (as : List Value) (M : xm_M) : Option Value × xm_M := match as with
  | [.int x] => (some (.int (if 0 ≤ x then x else -x)), M)
  | _ => (none, M)
noncomputable abbrev sJ_abs : xm_C := (1, 1, 0, pJ_abs, fJ_abs)
theorem uJ_abs : ∀ as M, (fJ_abs as M).2 = M := by
  intro as M
  unfold fJ_abs
  split <;> rfl
noncomputable def tJ_abs : List (Nat × xm_C) := []
theorem lJ_abs (l : Launch) : ∀ n C, (n, C) ∈ tJ_abs → xm_lkS l "java/lang/Math" xt_T xk_ns (xr_ 0) xk_cl xk_tA n C ∨ xm_lkV l "java/lang/Math" xt_T xk_ns (xr_ 0) xk_cl xk_tA n C := fun n C h => (show ∀ q ∈ tJ_abs, xm_lkS l "java/lang/Math" xt_T xk_ns (xr_ 0) xk_cl xk_tA q.1 q.2 ∨ xm_lkV l "java/lang/Math" xt_T xk_ns (xr_ 0) xk_cl xk_tA q.1 q.2 from fun _ h => absurd h List.not_mem_nil) (n, C) h
set_option maxRecDepth 20000 in
set_option maxHeartbeats 2000000 in
theorem cJ_abs (l : Launch) : xm_Pu l xy_J_abs (Cond.code xy_J_abs xb_J_abs 1 (some .int) :: xt_T) (xr_ 0) xk_cl xk_ns xk_tA pJ_abs fJ_abs := by
  refine xm_mk_pu (rt := .int) (fl := []) (ct := tJ_abs) (cn := []) (cj := []) (by decide +kernel) xs_J xd_J_abs rfl (Or.inr rfl) (lJ_abs l) (fun _ _ _ _ _ _ _ _ => False) ?_ ?_ ?_ (fun _ _ _ _ _ _ _ _ _ h => h.elim) ?_
  · rintro as M ⟨x, rfl⟩; exact Nat.le_of_ble_eq_true rfl
  · rintro as M ⟨x, rfl⟩; simp [fJ_abs]
  · rintro as M v ⟨x, rfl⟩ h; first | rfl | (simp [fJ_abs] at h)
  · rintro as M ⟨x, rfl⟩
    refine ⟨400, (And.intro (by decide) (And.intro (fun h1 => (And.intro ?g1_w_10 ?g2_r_10)) (fun h1 => (And.intro (by decide) (And.intro ?g3_w_10 ?g4_r_10)))))⟩
    case g1_w_10 =>
      first | rfl | exact xi_nb
    case g2_r_10 =>
      refine ⟨congrArg (fun z => some (Value.int z)) ?_, rfl⟩
      grind [Int32.not_lt, Int32.not_le]
    case g3_w_10 =>
      first | rfl | exact xi_nb
    case g4_r_10 =>
      refine ⟨congrArg (fun z => some (Value.int z)) ?_, rfl⟩
      grind [Int32.not_lt, Int32.not_le]
def pC_isWorkingDay (as : List Value) (M : xm_M) : Prop := ∃ d : Int32, as = [.ref 1, .int d] ∧ vp_in d 730
noncomputable def fC_isWorkingDay (as : List Value) (M : xm_M) : Option Value × xm_M := match as with
  | [_, .int d] => (some (.int (xi_b (d - d / 7 * 7 < 5 ∧ M 7 d.toNatClampNeg = 0))), M)
  | _ => (none, M)
noncomputable abbrev sC_isWorkingDay : xm_C := (0, 2, 0, pC_isWorkingDay, fC_isWorkingDay)
theorem uC_isWorkingDay : ∀ as M, (fC_isWorkingDay as M).2 = M := by
  intro as M
  unfold fC_isWorkingDay
  split <;> rfl
theorem vC_isWorkingDay : ∀ as M, pC_isWorkingDay as M → ∃ as1, as = .ref 1 :: as1 := by
  rintro as M ⟨d, rfl, hpre⟩
  exact ⟨_, rfl⟩
noncomputable def tC_isWorkingDay : List (Nat × xm_C) := []
theorem lC_isWorkingDay (l : Launch) : ∀ n C, (n, C) ∈ tC_isWorkingDay → xm_lkS l "AbsenceRows$Calendar" xt_T xk_ns (xr_ 0) xk_cl xk_tA n C ∨ xm_lkV l "AbsenceRows$Calendar" xt_T xk_ns (xr_ 0) xk_cl xk_tA n C := fun n C h => (show ∀ q ∈ tC_isWorkingDay, xm_lkS l "AbsenceRows$Calendar" xt_T xk_ns (xr_ 0) xk_cl xk_tA q.1 q.2 ∨ xm_lkV l "AbsenceRows$Calendar" xt_T xk_ns (xr_ 0) xk_cl xk_tA q.1 q.2 from fun _ h => absurd h List.not_mem_nil) (n, C) h
set_option maxRecDepth 20000 in
set_option maxHeartbeats 2000000 in
theorem cC_isWorkingDay (l : Launch) : xm_Pu l xy_C_isWorkingDay (Cond.code xy_C_isWorkingDay xb_C_isWorkingDay 2 (some .boolean) :: xt_T) (xr_ 0) xk_cl xk_ns xk_tA pC_isWorkingDay fC_isWorkingDay := by
  refine xm_mk_pu (rt := .boolean) (fl := xf_C) (ct := tC_isWorkingDay) (cn := []) (cj := []) (plainFor_of_name (by decide)) xs_C xd_C_isWorkingDay rfl (Or.inr rfl) (lC_isWorkingDay l) (fun _ _ _ _ _ _ _ _ => False) ?_ ?_ ?_ (fun _ _ _ _ _ _ _ _ _ h => h.elim) ?_
  · rintro as M ⟨d, rfl, hpre⟩; exact Nat.le_of_ble_eq_true rfl
  · rintro as M ⟨d, rfl, hpre⟩; simp [fC_isWorkingDay]
  · rintro as M v ⟨d, rfl, hpre⟩ h; first | rfl | (simp [fC_isWorkingDay] at h)
  · rintro as M ⟨d, rfl, hpre⟩
    refine ⟨400, (And.intro ?g1_n_3 (And.intro (by decide) (And.intro (fun h5 => (And.intro ?g2_w_22 ?g3_r_22)) (fun h5 => (And.intro rfl (And.intro rfl (And.intro ?g4_i_13 (And.intro (by decide) (And.intro (fun h14 => (And.intro ?g5_w_22 ?g6_r_22)) (fun h14 => (And.intro (by decide) (And.intro ?g7_w_22 ?g8_r_22))))))))))))⟩
    case g1_n_3 =>
      decide
    case g2_w_22 =>
      first | rfl | exact xi_nb
    case g3_r_22 =>
      refine ⟨congrArg (fun z => some (Value.int z)) ?_, rfl⟩
      try simp only [xi_0, xi_n0] at *
      first | exact (xi_t (by grind [Int32.not_lt, Int32.not_le])).symm | exact (xi_f (by grind [Int32.not_lt, Int32.not_le])).symm
    case g4_i_13 =>
      exact hpre
    case g5_w_22 =>
      first | rfl | exact xi_nb
    case g6_r_22 =>
      refine ⟨congrArg (fun z => some (Value.int z)) ?_, rfl⟩
      try simp only [xi_0, xi_n0] at *
      first | exact (xi_t (by grind [Int32.not_lt, Int32.not_le])).symm | exact (xi_f (by grind [Int32.not_lt, Int32.not_le])).symm
    case g7_w_22 =>
      first | rfl | exact xi_nb
    case g8_r_22 =>
      refine ⟨congrArg (fun z => some (Value.int z)) ?_, rfl⟩
      try simp only [xi_0, xi_n0] at *
      first | exact (xi_t (by grind [Int32.not_lt, Int32.not_le])).symm | exact (xi_f (by grind [Int32.not_lt, Int32.not_le])).symm
def pK_isOpen (as : List Value) (M : xm_M) : Prop := ∃ a : Int32, as = [.ref 4, .int a] ∧ vp_in a 80
noncomputable def fK_isOpen (as : List Value) (M : xm_M) : Option Value × xm_M := match as with
  | [_, .int a] => (some (.int (xi_b (M 23 a.toNatClampNeg = 0 ∨ M 23 a.toNatClampNeg = 1))), M)
  | _ => (none, M)
noncomputable abbrev sK_isOpen : xm_C := (0, 2, 0, pK_isOpen, fK_isOpen)
theorem uK_isOpen : ∀ as M, (fK_isOpen as M).2 = M := by
  intro as M
  unfold fK_isOpen
  split <;> rfl
theorem vK_isOpen : ∀ as M, pK_isOpen as M → ∃ as1, as = .ref 4 :: as1 := by
  rintro as M ⟨a, rfl, hpre⟩
  exact ⟨_, rfl⟩
noncomputable def tK_isOpen : List (Nat × xm_C) := []
theorem lK_isOpen (l : Launch) : ∀ n C, (n, C) ∈ tK_isOpen → xm_lkS l "AbsenceRows$Asks" xt_T xk_ns (xr_ 0) xk_cl xk_tA n C ∨ xm_lkV l "AbsenceRows$Asks" xt_T xk_ns (xr_ 0) xk_cl xk_tA n C := fun n C h => (show ∀ q ∈ tK_isOpen, xm_lkS l "AbsenceRows$Asks" xt_T xk_ns (xr_ 0) xk_cl xk_tA q.1 q.2 ∨ xm_lkV l "AbsenceRows$Asks" xt_T xk_ns (xr_ 0) xk_cl xk_tA q.1 q.2 from fun _ h => absurd h List.not_mem_nil) (n, C) h
set_option maxRecDepth 20000 in
set_option maxHeartbeats 2000000 in
theorem cK_isOpen (l : Launch) : xm_Pu l xy_K_isOpen (Cond.code xy_K_isOpen xb_K_isOpen 2 (some .boolean) :: xt_T) (xr_ 0) xk_cl xk_ns xk_tA pK_isOpen fK_isOpen := by
  refine xm_mk_pu (rt := .boolean) (fl := xf_K) (ct := tK_isOpen) (cn := []) (cj := []) (plainFor_of_name (by decide)) xs_K xd_K_isOpen rfl (Or.inr rfl) (lK_isOpen l) (fun _ _ _ _ _ _ _ _ => False) ?_ ?_ ?_ (fun _ _ _ _ _ _ _ _ _ h => h.elim) ?_
  · rintro as M ⟨a, rfl, hpre⟩; exact Nat.le_of_ble_eq_true rfl
  · rintro as M ⟨a, rfl, hpre⟩; simp [fK_isOpen]
  · rintro as M v ⟨a, rfl, hpre⟩ h; first | rfl | (simp [fK_isOpen] at h)
  · rintro as M ⟨a, rfl, hpre⟩
    refine ⟨400, (And.intro rfl (And.intro rfl (And.intro ?g1_i_5 (And.intro (by decide) (And.intro (fun h6 => (And.intro (by decide) (And.intro ?g2_w_24 ?g3_r_24))) (fun h6 => (And.intro rfl (And.intro rfl (And.intro ?g4_i_14 (And.intro (by decide) (And.intro (fun h16 => (And.intro ?g5_w_24 ?g6_r_24)) (fun h16 => (And.intro (by decide) (And.intro ?g7_w_24 ?g8_r_24))))))))))))))⟩
    case g1_i_5 =>
      exact hpre
    case g2_w_24 =>
      first | rfl | exact xi_nb
    case g3_r_24 =>
      refine ⟨congrArg (fun z => some (Value.int z)) ?_, rfl⟩
      try simp only [xi_0, xi_n0] at *
      first | exact (xi_t (by grind [Int32.not_lt, Int32.not_le])).symm | exact (xi_f (by grind [Int32.not_lt, Int32.not_le])).symm
    case g4_i_14 =>
      exact hpre
    case g5_w_24 =>
      first | rfl | exact xi_nb
    case g6_r_24 =>
      refine ⟨congrArg (fun z => some (Value.int z)) ?_, rfl⟩
      try simp only [xi_0, xi_n0] at *
      first | exact (xi_t (by grind [Int32.not_lt, Int32.not_le])).symm | exact (xi_f (by grind [Int32.not_lt, Int32.not_le])).symm
    case g7_w_24 =>
      first | rfl | exact xi_nb
    case g8_r_24 =>
      refine ⟨congrArg (fun z => some (Value.int z)) ?_, rfl⟩
      try simp only [xi_0, xi_n0] at *
      first | exact (xi_t (by grind [Int32.not_lt, Int32.not_le])).symm | exact (xi_f (by grind [Int32.not_lt, Int32.not_le])).symm
def pK_isBeforeLastStep (as : List Value) (M : xm_M) : Prop := ∃ a : Int32, as = [.ref 4, .int a] ∧ vp_in a 80
noncomputable def fK_isBeforeLastStep (as : List Value) (M : xm_M) : Option Value × xm_M := match as with
  | [_, .int a] => (some (.int (xi_b (M 19 a.toNatClampNeg = 2 ∨ M 23 a.toNatClampNeg = 1))), M)
  | _ => (none, M)
noncomputable abbrev sK_isBeforeLastStep : xm_C := (0, 2, 0, pK_isBeforeLastStep, fK_isBeforeLastStep)
theorem uK_isBeforeLastStep : ∀ as M, (fK_isBeforeLastStep as M).2 = M := by
  intro as M
  unfold fK_isBeforeLastStep
  split <;> rfl
theorem vK_isBeforeLastStep : ∀ as M, pK_isBeforeLastStep as M → ∃ as1, as = .ref 4 :: as1 := by
  rintro as M ⟨a, rfl, hpre⟩
  exact ⟨_, rfl⟩
noncomputable def tK_isBeforeLastStep : List (Nat × xm_C) := []
theorem lK_isBeforeLastStep (l : Launch) : ∀ n C, (n, C) ∈ tK_isBeforeLastStep → xm_lkS l "AbsenceRows$Asks" xt_T xk_ns (xr_ 0) xk_cl xk_tA n C ∨ xm_lkV l "AbsenceRows$Asks" xt_T xk_ns (xr_ 0) xk_cl xk_tA n C := fun n C h => (show ∀ q ∈ tK_isBeforeLastStep, xm_lkS l "AbsenceRows$Asks" xt_T xk_ns (xr_ 0) xk_cl xk_tA q.1 q.2 ∨ xm_lkV l "AbsenceRows$Asks" xt_T xk_ns (xr_ 0) xk_cl xk_tA q.1 q.2 from fun _ h => absurd h List.not_mem_nil) (n, C) h
set_option maxRecDepth 20000 in
set_option maxHeartbeats 2000000 in
theorem cK_isBeforeLastStep (l : Launch) : xm_Pu l xy_K_isBeforeLastStep (Cond.code xy_K_isBeforeLastStep xb_K_isBeforeLastStep 2 (some .boolean) :: xt_T) (xr_ 0) xk_cl xk_ns xk_tA pK_isBeforeLastStep fK_isBeforeLastStep := by
  refine xm_mk_pu (rt := .boolean) (fl := xf_K) (ct := tK_isBeforeLastStep) (cn := []) (cj := []) (plainFor_of_name (by decide)) xs_K xd_K_isBeforeLastStep rfl (Or.inr rfl) (lK_isBeforeLastStep l) (fun _ _ _ _ _ _ _ _ => False) ?_ ?_ ?_ (fun _ _ _ _ _ _ _ _ _ h => h.elim) ?_
  · rintro as M ⟨a, rfl, hpre⟩; exact Nat.le_of_ble_eq_true rfl
  · rintro as M ⟨a, rfl, hpre⟩; simp [fK_isBeforeLastStep]
  · rintro as M v ⟨a, rfl, hpre⟩ h; first | rfl | (simp [fK_isBeforeLastStep] at h)
  · rintro as M ⟨a, rfl, hpre⟩
    refine ⟨400, (And.intro rfl (And.intro rfl (And.intro ?g1_i_5 (And.intro (by decide) (And.intro (fun h7 => (And.intro (by decide) (And.intro ?g2_w_25 ?g3_r_25))) (fun h7 => (And.intro rfl (And.intro rfl (And.intro ?g4_i_15 (And.intro (by decide) (And.intro (fun h17 => (And.intro ?g5_w_25 ?g6_r_25)) (fun h17 => (And.intro (by decide) (And.intro ?g7_w_25 ?g8_r_25))))))))))))))⟩
    case g1_i_5 =>
      exact hpre
    case g2_w_25 =>
      first | rfl | exact xi_nb
    case g3_r_25 =>
      refine ⟨congrArg (fun z => some (Value.int z)) ?_, rfl⟩
      try simp only [xi_0, xi_n0] at *
      first | exact (xi_t (by grind [Int32.not_lt, Int32.not_le])).symm | exact (xi_f (by grind [Int32.not_lt, Int32.not_le])).symm
    case g4_i_15 =>
      exact hpre
    case g5_w_25 =>
      first | rfl | exact xi_nb
    case g6_r_25 =>
      refine ⟨congrArg (fun z => some (Value.int z)) ?_, rfl⟩
      try simp only [xi_0, xi_n0] at *
      first | exact (xi_t (by grind [Int32.not_lt, Int32.not_le])).symm | exact (xi_f (by grind [Int32.not_lt, Int32.not_le])).symm
    case g7_w_25 =>
      first | rfl | exact xi_nb
    case g8_r_25 =>
      refine ⟨congrArg (fun z => some (Value.int z)) ?_, rfl⟩
      try simp only [xi_0, xi_n0] at *
      first | exact (xi_t (by grind [Int32.not_lt, Int32.not_le])).symm | exact (xi_f (by grind [Int32.not_lt, Int32.not_le])).symm
def pK_takesFromBudget (as : List Value) (M : xm_M) : Prop := ∃ a : Int32, as = [.ref 4, .int a] ∧ vp_in a 80
noncomputable def fK_takesFromBudget (as : List Value) (M : xm_M) : Option Value × xm_M := match as with
  | [_, .int a] => (some (.int (xi_b (M 19 a.toNatClampNeg = 0 ∧ ¬ M 23 a.toNatClampNeg = 3))), M)
  | _ => (none, M)
noncomputable abbrev sK_takesFromBudget : xm_C := (0, 2, 0, pK_takesFromBudget, fK_takesFromBudget)
theorem uK_takesFromBudget : ∀ as M, (fK_takesFromBudget as M).2 = M := by
  intro as M
  unfold fK_takesFromBudget
  split <;> rfl
theorem vK_takesFromBudget : ∀ as M, pK_takesFromBudget as M → ∃ as1, as = .ref 4 :: as1 := by
  rintro as M ⟨a, rfl, hpre⟩
  exact ⟨_, rfl⟩
noncomputable def tK_takesFromBudget : List (Nat × xm_C) := []
theorem lK_takesFromBudget (l : Launch) : ∀ n C, (n, C) ∈ tK_takesFromBudget → xm_lkS l "AbsenceRows$Asks" xt_T xk_ns (xr_ 0) xk_cl xk_tA n C ∨ xm_lkV l "AbsenceRows$Asks" xt_T xk_ns (xr_ 0) xk_cl xk_tA n C := fun n C h => (show ∀ q ∈ tK_takesFromBudget, xm_lkS l "AbsenceRows$Asks" xt_T xk_ns (xr_ 0) xk_cl xk_tA q.1 q.2 ∨ xm_lkV l "AbsenceRows$Asks" xt_T xk_ns (xr_ 0) xk_cl xk_tA q.1 q.2 from fun _ h => absurd h List.not_mem_nil) (n, C) h
set_option maxRecDepth 20000 in
set_option maxHeartbeats 2000000 in
theorem cK_takesFromBudget (l : Launch) : xm_Pu l xy_K_takesFromBudget (Cond.code xy_K_takesFromBudget xb_K_takesFromBudget 2 (some .boolean) :: xt_T) (xr_ 0) xk_cl xk_ns xk_tA pK_takesFromBudget fK_takesFromBudget := by
  refine xm_mk_pu (rt := .boolean) (fl := xf_K) (ct := tK_takesFromBudget) (cn := []) (cj := []) (plainFor_of_name (by decide)) xs_K xd_K_takesFromBudget rfl (Or.inr rfl) (lK_takesFromBudget l) (fun _ _ _ _ _ _ _ _ => False) ?_ ?_ ?_ (fun _ _ _ _ _ _ _ _ _ h => h.elim) ?_
  · rintro as M ⟨a, rfl, hpre⟩; exact Nat.le_of_ble_eq_true rfl
  · rintro as M ⟨a, rfl, hpre⟩; simp [fK_takesFromBudget]
  · rintro as M v ⟨a, rfl, hpre⟩ h; first | rfl | (simp [fK_takesFromBudget] at h)
  · rintro as M ⟨a, rfl, hpre⟩
    refine ⟨400, (And.intro rfl (And.intro rfl (And.intro ?g1_i_5 (And.intro (by decide) (And.intro (fun h6 => (And.intro ?g2_w_24 ?g3_r_24)) (fun h6 => (And.intro rfl (And.intro rfl (And.intro ?g4_i_14 (And.intro (by decide) (And.intro (fun h16 => (And.intro ?g5_w_24 ?g6_r_24)) (fun h16 => (And.intro (by decide) (And.intro ?g7_w_24 ?g8_r_24))))))))))))))⟩
    case g1_i_5 =>
      exact hpre
    case g2_w_24 =>
      first | rfl | exact xi_nb
    case g3_r_24 =>
      refine ⟨congrArg (fun z => some (Value.int z)) ?_, rfl⟩
      try simp only [xi_0, xi_n0] at *
      first | exact (xi_t (by grind [Int32.not_lt, Int32.not_le])).symm | exact (xi_f (by grind [Int32.not_lt, Int32.not_le])).symm
    case g4_i_14 =>
      exact hpre
    case g5_w_24 =>
      first | rfl | exact xi_nb
    case g6_r_24 =>
      refine ⟨congrArg (fun z => some (Value.int z)) ?_, rfl⟩
      try simp only [xi_0, xi_n0] at *
      first | exact (xi_t (by grind [Int32.not_lt, Int32.not_le])).symm | exact (xi_f (by grind [Int32.not_lt, Int32.not_le])).symm
    case g7_w_24 =>
      first | rfl | exact xi_nb
    case g8_r_24 =>
      refine ⟨congrArg (fun z => some (Value.int z)) ?_, rfl⟩
      try simp only [xi_0, xi_n0] at *
      first | exact (xi_t (by grind [Int32.not_lt, Int32.not_le])).symm | exact (xi_f (by grind [Int32.not_lt, Int32.not_le])).symm
def pP_goesBefore (as : List Value) (M : xm_M) : Prop := ∃ p b : Int32, as = [.ref 2, .int p, .int b] ∧ vp_in p 20 ∧ vp_in b 20
noncomputable def fP_goesBefore (as : List Value) (M : xm_M) : Option Value × xm_M := match as with
  | [_, .int p, .int b] => (some (.int (xi_b (if M 9 p.toNatClampNeg = M 9 b.toNatClampNeg then M 13 p.toNatClampNeg < M 13 b.toNatClampNeg else M 9 b.toNatClampNeg < M 9 p.toNatClampNeg))), M)
  | _ => (none, M)
noncomputable abbrev sP_goesBefore : xm_C := (0, 3, 0, pP_goesBefore, fP_goesBefore)
theorem uP_goesBefore : ∀ as M, (fP_goesBefore as M).2 = M := by
  intro as M
  unfold fP_goesBefore
  split <;> rfl
theorem vP_goesBefore : ∀ as M, pP_goesBefore as M → ∃ as1, as = .ref 2 :: as1 := by
  rintro as M ⟨p, b, rfl, hpre⟩
  exact ⟨_, rfl⟩
noncomputable def tP_goesBefore : List (Nat × xm_C) := []
theorem lP_goesBefore (l : Launch) : ∀ n C, (n, C) ∈ tP_goesBefore → xm_lkS l "AbsenceRows$Persons" xt_T xk_ns (xr_ 0) xk_cl xk_tA n C ∨ xm_lkV l "AbsenceRows$Persons" xt_T xk_ns (xr_ 0) xk_cl xk_tA n C := fun n C h => (show ∀ q ∈ tP_goesBefore, xm_lkS l "AbsenceRows$Persons" xt_T xk_ns (xr_ 0) xk_cl xk_tA q.1 q.2 ∨ xm_lkV l "AbsenceRows$Persons" xt_T xk_ns (xr_ 0) xk_cl xk_tA q.1 q.2 from fun _ h => absurd h List.not_mem_nil) (n, C) h
set_option maxRecDepth 20000 in
set_option maxHeartbeats 2000000 in
theorem cP_goesBefore (l : Launch) : xm_Pu l xy_P_goesBefore (Cond.code xy_P_goesBefore xb_P_goesBefore 3 (some .boolean) :: xt_T) (xr_ 0) xk_cl xk_ns xk_tA pP_goesBefore fP_goesBefore := by
  refine xm_mk_pu (rt := .boolean) (fl := xf_P) (ct := tP_goesBefore) (cn := []) (cj := []) (plainFor_of_name (by decide)) xs_P xd_P_goesBefore rfl (Or.inr rfl) (lP_goesBefore l) (fun _ _ _ _ _ _ _ _ => False) ?_ ?_ ?_ (fun _ _ _ _ _ _ _ _ _ h => h.elim) ?_
  · rintro as M ⟨p, b, rfl, hpre⟩; exact Nat.le_of_ble_eq_true rfl
  · rintro as M ⟨p, b, rfl, hpre⟩; simp [fP_goesBefore]
  · rintro as M v ⟨p, b, rfl, hpre⟩ h; first | rfl | (simp [fP_goesBefore] at h)
  · rintro as M ⟨p, b, rfl, hpre⟩
    refine ⟨400, (And.intro rfl (And.intro rfl (And.intro ?g1_i_5 (And.intro rfl (And.intro rfl (And.intro ?g2_i_11 (And.intro (by decide) (And.intro (fun h12 => (And.intro rfl (And.intro rfl (And.intro ?g3_i_41 (And.intro rfl (And.intro rfl (And.intro ?g4_i_47 (And.intro (by decide) (And.intro (fun h48 => (And.intro ?g5_w_56 ?g6_r_56)) (fun h48 => (And.intro (by decide) (And.intro ?g7_w_56 ?g8_r_56)))))))))))) (fun h12 => (And.intro rfl (And.intro rfl (And.intro ?g9_i_20 (And.intro rfl (And.intro rfl (And.intro ?g10_i_26 (And.intro (by decide) (And.intro (fun h27 => (And.intro ?g11_w_35 ?g12_r_35)) (fun h27 => (And.intro (by decide) (And.intro ?g13_w_35 ?g14_r_35))))))))))))))))))))⟩
    case g1_i_5 =>
      first | exact hpre.1 | exact hpre.2
    case g2_i_11 =>
      first | exact hpre.1 | exact hpre.2
    case g3_i_41 =>
      first | exact hpre.1 | exact hpre.2
    case g4_i_47 =>
      first | exact hpre.1 | exact hpre.2
    case g5_w_56 =>
      first | rfl | exact xi_nb
    case g6_r_56 =>
      refine ⟨congrArg (fun z => some (Value.int z)) ?_, rfl⟩
      try simp only [xi_0, xi_n0] at *
      first | exact (xi_t (by grind [Int32.not_lt, Int32.not_le])).symm | exact (xi_f (by grind [Int32.not_lt, Int32.not_le])).symm
    case g7_w_56 =>
      first | rfl | exact xi_nb
    case g8_r_56 =>
      refine ⟨congrArg (fun z => some (Value.int z)) ?_, rfl⟩
      try simp only [xi_0, xi_n0] at *
      first | exact (xi_t (by grind [Int32.not_lt, Int32.not_le])).symm | exact (xi_f (by grind [Int32.not_lt, Int32.not_le])).symm
    case g9_i_20 =>
      first | exact hpre.1 | exact hpre.2
    case g10_i_26 =>
      first | exact hpre.1 | exact hpre.2
    case g11_w_35 =>
      first | rfl | exact xi_nb
    case g12_r_35 =>
      refine ⟨congrArg (fun z => some (Value.int z)) ?_, rfl⟩
      try simp only [xi_0, xi_n0] at *
      first | exact (xi_t (by grind [Int32.not_lt, Int32.not_le])).symm | exact (xi_f (by grind [Int32.not_lt, Int32.not_le])).symm
    case g13_w_35 =>
      first | rfl | exact xi_nb
    case g14_r_35 =>
      refine ⟨congrArg (fun z => some (Value.int z)) ?_, rfl⟩
      try simp only [xi_0, xi_n0] at *
      first | exact (xi_t (by grind [Int32.not_lt, Int32.not_le])).symm | exact (xi_f (by grind [Int32.not_lt, Int32.not_le])).symm
def pA_isAbove (as : List Value) (M : xm_M) : Prop := ∃ w p : Int32, as = [.ref 0, .int w, .int p] ∧ vp_in w 20 ∧ vp_in p 20
noncomputable def fA_isAbove (as : List Value) (M : xm_M) : Option Value × xm_M := match as with
  | [_, .int w, .int p] => (some (.int (xi_b (M 9 p.toNatClampNeg < M 9 w.toNatClampNeg))), M)
  | _ => (none, M)
noncomputable abbrev sA_isAbove : xm_C := (0, 3, 0, pA_isAbove, fA_isAbove)
theorem uA_isAbove : ∀ as M, (fA_isAbove as M).2 = M := by
  intro as M
  unfold fA_isAbove
  split <;> rfl
theorem vA_isAbove : ∀ as M, pA_isAbove as M → ∃ as1, as = .ref 0 :: as1 := by
  rintro as M ⟨w, p, rfl, hpre⟩
  exact ⟨_, rfl⟩
noncomputable def tA_isAbove : List (Nat × xm_C) := []
theorem lA_isAbove (l : Launch) : ∀ n C, (n, C) ∈ tA_isAbove → xm_lkS l "AbsenceRows" xt_T xk_ns (xr_ 0) xk_cl xk_tA n C ∨ xm_lkV l "AbsenceRows" xt_T xk_ns (xr_ 0) xk_cl xk_tA n C := fun n C h => (show ∀ q ∈ tA_isAbove, xm_lkS l "AbsenceRows" xt_T xk_ns (xr_ 0) xk_cl xk_tA q.1 q.2 ∨ xm_lkV l "AbsenceRows" xt_T xk_ns (xr_ 0) xk_cl xk_tA q.1 q.2 from fun _ h => absurd h List.not_mem_nil) (n, C) h
set_option maxRecDepth 20000 in
set_option maxHeartbeats 2000000 in
theorem cA_isAbove (l : Launch) : xm_Pu l xy_A_isAbove (Cond.code xy_A_isAbove xb_A_isAbove 3 (some .boolean) :: xt_T) (xr_ 0) xk_cl xk_ns xk_tA pA_isAbove fA_isAbove := by
  refine xm_mk_pu (rt := .boolean) (fl := xf_A) (ct := tA_isAbove) (cn := []) (cj := []) (plainFor_of_name (by decide)) xs_A xd_A_isAbove rfl (Or.inr rfl) (lA_isAbove l) (fun _ _ _ _ _ _ _ _ => False) ?_ ?_ ?_ (fun _ _ _ _ _ _ _ _ _ h => h.elim) ?_
  · rintro as M ⟨w, p, rfl, hpre⟩; exact Nat.le_of_ble_eq_true rfl
  · rintro as M ⟨w, p, rfl, hpre⟩; simp [fA_isAbove]
  · rintro as M v ⟨w, p, rfl, hpre⟩ h; first | rfl | (simp [fA_isAbove] at h)
  · rintro as M ⟨w, p, rfl, hpre⟩
    refine ⟨400, (And.intro rfl (And.intro rfl (And.intro rfl (And.intro ?g1_i_8 (And.intro rfl (And.intro rfl (And.intro rfl (And.intro ?g2_i_17 (And.intro (by decide) (And.intro (fun h18 => (And.intro ?g3_w_26 ?g4_r_26)) (fun h18 => (And.intro (by decide) (And.intro ?g5_w_26 ?g6_r_26)))))))))))))⟩
    case g1_i_8 =>
      first | exact hpre.1 | exact hpre.2
    case g2_i_17 =>
      first | exact hpre.1 | exact hpre.2
    case g3_w_26 =>
      first | rfl | exact xi_nb
    case g4_r_26 =>
      refine ⟨congrArg (fun z => some (Value.int z)) ?_, rfl⟩
      try simp only [xi_0, xi_n0] at *
      first | exact (xi_t (by grind [Int32.not_lt, Int32.not_le])).symm | exact (xi_f (by grind [Int32.not_lt, Int32.not_le])).symm
    case g5_w_26 =>
      first | rfl | exact xi_nb
    case g6_r_26 =>
      refine ⟨congrArg (fun z => some (Value.int z)) ?_, rfl⟩
      try simp only [xi_0, xi_n0] at *
      first | exact (xi_t (by grind [Int32.not_lt, Int32.not_le])).symm | exact (xi_f (by grind [Int32.not_lt, Int32.not_le])).symm
def pP_daysThere (as : List Value) (M : xm_M) : Prop := ∃ p y : Int32, as = [.ref 2, .int p, .int y] ∧ vp_in p 20
noncomputable def fP_daysThere (as : List Value) (M : xm_M) : Option Value × xm_M := match as with
  | [_, .int p, .int y] => (some (.int ((fun z : Int32 => if (0 : Int32) < z then z else 0) ((fun z : Int32 => if z < 365 then z else 365) ((y + 1) * 365 - M 10 p.toNatClampNeg)))), M)
  | _ => (none, M)
noncomputable abbrev sP_daysThere : xm_C := (0, 3, 0, pP_daysThere, fP_daysThere)
theorem uP_daysThere : ∀ as M, (fP_daysThere as M).2 = M := by
  intro as M
  unfold fP_daysThere
  split <;> rfl
theorem vP_daysThere : ∀ as M, pP_daysThere as M → ∃ as1, as = .ref 2 :: as1 := by
  rintro as M ⟨p, y, rfl, hpre⟩
  exact ⟨_, rfl⟩
noncomputable def tP_daysThere : List (Nat × xm_C) := [(41, sJ_min), (47, sJ_max)]
theorem lP_daysThere (l : Launch) : ∀ n C, (n, C) ∈ tP_daysThere → xm_lkS l "AbsenceRows$Persons" xt_T xk_ns (xr_ 1) xk_cl xk_tA n C ∨ xm_lkV l "AbsenceRows$Persons" xt_T xk_ns (xr_ 1) xk_cl xk_tA n C := fun n C h => (show ∀ q ∈ tP_daysThere, xm_lkS l "AbsenceRows$Persons" xt_T xk_ns (xr_ 1) xk_cl xk_tA q.1 q.2 ∨ xm_lkV l "AbsenceRows$Persons" xt_T xk_ns (xr_ 1) xk_cl xk_tA q.1 q.2 from List.forall_mem_cons.mpr ⟨Or.inl ⟨xy_J_min, xb_J_min, 2, (some .int), xr_ 0, rfl, ⟨xe_J_min, xw_51, ⟨by decide, by decide, by decide +kernel⟩, ⟨Nat.le_of_ble_eq_true rfl, Nat.le_of_ble_eq_true rfl⟩, rfl, rfl⟩, xw_433, Or.inl xw_432, Or.inl ⟨rfl, uJ_min, cJ_min l⟩⟩, List.forall_mem_cons.mpr ⟨Or.inl ⟨xy_J_max, xb_J_max, 2, (some .int), xr_ 0, rfl, ⟨xe_J_max, xw_51, ⟨by decide, by decide, by decide +kernel⟩, ⟨Nat.le_of_ble_eq_true rfl, Nat.le_of_ble_eq_true rfl⟩, rfl, rfl⟩, xw_436, Or.inl xw_435, Or.inl ⟨rfl, uJ_max, cJ_max l⟩⟩, fun _ h => absurd h List.not_mem_nil⟩⟩) (n, C) h
set_option maxRecDepth 20000 in
set_option maxHeartbeats 2000000 in
theorem cP_daysThere (l : Launch) : xm_Pu l xy_P_daysThere (Cond.code xy_P_daysThere xb_P_daysThere 4 (some .int) :: xt_T) (xr_ 1) xk_cl xk_ns xk_tA pP_daysThere fP_daysThere := by
  refine xm_mk_pu (rt := .int) (fl := xf_P) (ct := tP_daysThere) (cn := []) (cj := []) (plainFor_of_name (by decide)) xs_P xd_P_daysThere rfl (Or.inr rfl) (lP_daysThere l) (fun _ _ _ _ _ _ _ _ => False) ?_ ?_ ?_ (fun _ _ _ _ _ _ _ _ _ h => h.elim) ?_
  · rintro as M ⟨p, y, rfl, hpre⟩; exact Nat.le_of_ble_eq_true rfl
  · rintro as M ⟨p, y, rfl, hpre⟩; simp [fP_daysThere]
  · rintro as M v ⟨p, y, rfl, hpre⟩ h; first | rfl | (simp [fP_daysThere] at h)
  · rintro as M ⟨p, y, rfl, hpre⟩
    refine ⟨400, (And.intro (Nat.le_of_ble_eq_true rfl) (And.intro rfl (And.intro rfl (And.intro ?g1_i_18 (And.intro rfl (And.intro (Nat.le_of_ble_eq_true rfl) (And.intro (Nat.le_of_ble_eq_true rfl) (And.intro ?g2_c_20 (And.intro rfl (And.intro (Nat.le_of_ble_eq_true rfl) (And.intro (Nat.le_of_ble_eq_true rfl) (And.intro ?g3_c_23 (And.intro ?g4_w_26 ?g5_r_26)))))))))))))⟩
    case g1_i_18 =>
      exact hpre
    case g2_c_20 =>
      exact ⟨_, _, rfl⟩
    case g3_c_23 =>
      exact ⟨_, _, rfl⟩
    case g4_w_26 =>
      first | rfl | exact xi_nb
    case g5_r_26 =>
      exact ⟨rfl, rfl⟩
end
section
/-! NUMBERS for loops: folds, counters -/
noncomputable def xi_w (c : Prop) (v : Int32) : Int32 := @ite Int32 c (Classical.propDecidable c) v 0
theorem xi_wt {c : Prop} {v : Int32} (h : c) : xi_w c v = v := by simp [xi_w, h]
theorem xi_wf {c : Prop} {v : Int32} (h : ¬ c) : xi_w c v = 0 := by simp [xi_w, h]
def xq_s (g : Nat → Int32) : Nat → Int32
  | 0 => 0
  | n + 1 => xq_s g n + g n
def xq_o (g : Nat → Int32) : Nat → Int32
  | 0 => 0
  | n + 1 => xq_o g n ||| g n
theorem xq_s1 (g : Nat → Int32) (n : Nat) : xq_s g (n + 1) = xq_s g n + g n := rfl
theorem xq_o1 (g : Nat → Int32) (n : Nat) : xq_o g (n + 1) = xq_o g n ||| g n := rfl
theorem xi_or0 (x : Int32) : x ||| 0 = x := by
  apply Int32.toBitVec_inj.mp
  simp
theorem xl_lt {x : Int32} {c i : Nat} (hx : x = nI c) (hi : i ≤ c) (h : ¬ x ≤ nI i) : i < c := by
  rcases Nat.lt_or_ge i c with q | q
  · exact q
  · have e : i = c := by omega
    exact absurd (by rw [hx, e]; exact Int32.le_refl _) h
theorem xl_end {x : Int32} {c i : Nat} (hx : x = nI c) (hc : c < 2 ^ 31) (hi : i ≤ c) (h : x ≤ nI i) : i = c := by
  rcases Nat.lt_or_ge i c with q | q
  · exact absurd (by rw [← hx]; exact h) (nI_ge q hc)
  · omega
theorem xl_ls2 {a b c d : Int32} {x y : Value} {s t : Nat} {r : List (Nat × Value)} (h1 : a = c) (h2 : b = d) : ((s, Value.int a) :: (t, Value.int b) :: r) = ((s, Value.int c) :: (t, Value.int d) :: r) := by rw [h1, h2]
noncomputable def xi_x (c : Prop) (v w : Int32) : Int32 := @ite Int32 c (Classical.propDecidable c) v w
theorem xi_xt {c : Prop} {v w : Int32} (h : c) : xi_x c v w = v := by simp [xi_x, h]
theorem xi_xf {c : Prop} {v w : Int32} (h : ¬ c) : xi_x c v w = w := by simp [xi_x, h]
/-- the earliest of those that are not -1 -/
noncomputable def xq_m (x : Nat → Int32) : Nat → Int32
  | 0 => -1
  | n + 1 => xi_x (¬ x n = -1 ∧ (xq_m x n = -1 ∨ x n < xq_m x n)) (x n) (xq_m x n)
theorem xq_m1 (x : Nat → Int32) (n : Nat) : xq_m x (n + 1) = xi_x (¬ x n = -1 ∧ (xq_m x n = -1 ∨ x n < xq_m x n)) (x n) (xq_m x n) := rfl
theorem xi_add0 (x : Int32) : x + 0 = x := by simp
def xv_span (f t : Int32) : Prop := ∃ a b : Nat, f = nI a ∧ t = nI b ∧ a ≤ b ∧ b < 730
theorem xl_dl {f t : Int32} {a b i : Nat} (_ : f = nI a) (hb : t = nI b) (hb7 : b < 730) (h : ¬ t < nI (a + i)) (hi : a + i < 2 ^ 31 := by omega) : a + i ≤ b := by
  rcases Nat.lt_or_ge b (a + i) with q | q
  · exact absurd (by rw [hb]; exact nI_lt q hi) h
  · exact q
theorem xl_d {f t : Int32} {a b i : Nat} (ha : f = nI a) (hb : t = nI b) (hb7 : b < 730) (h : ¬ t < nI (a + i)) (hi : a + i < 2 ^ 31 := by omega) : vp_in (nI (a + i)) 730 := vp_in_nI (Nat.lt_of_le_of_lt (xl_dl ha hb hb7 h hi) hb7) (by decide)
theorem xl_de {f t : Int32} {a b i : Nat} (_ : f = nI a) (hb : t = nI b) (hb7 : b < 730) (hab : a ≤ b) (hi : i ≤ b + 1 - a) (h : t < nI (a + i)) : i = b + 1 - a := by
  rcases Nat.lt_or_ge b (a + i) with q | q
  · omega
  · exact absurd (by rw [← hb]; exact h) (nI_nlt q (by omega))
theorem xl_some {a b : Int32} (h : a = b) : some (Value.int a) = some (Value.int b) := by rw [h]
def pP_thereOn (as : List Value) (M : xm_M) : Prop := ∃ d : Int32, as = [.ref 2, .int d] ∧ (∃ c, c ≤ 20 ∧ M 2 0 = nI c)
noncomputable def fP_thereOn (as : List Value) (M : xm_M) : Option Value × xm_M := match as with
  | [_, .int d] => (some (.int (xq_o (fun i => xi_w (M 10 i ≤ d) (1 <<< (nI i &&& 31))) (M 2 0).toNatClampNeg)), M)
  | _ => (none, M)
noncomputable abbrev sP_thereOn : xm_C := (0, 2, 0, pP_thereOn, fP_thereOn)
theorem uP_thereOn : ∀ as M, (fP_thereOn as M).2 = M := by
  intro as M
  unfold fP_thereOn
  split <;> rfl
theorem vP_thereOn : ∀ as M, pP_thereOn as M → ∃ as1, as = .ref 2 :: as1 := by
  rintro as M ⟨d, rfl, ⟨c0, hc0, hc1⟩⟩
  exact ⟨_, rfl⟩
noncomputable def tP_thereOn : List (Nat × xm_C) := [(50, sA_only)]
theorem lP_thereOn (l : Launch) : ∀ n C, (n, C) ∈ tP_thereOn → xm_lkS l "AbsenceRows$Persons" xt_T xk_ns (xr_ 1) xk_cl xk_tA n C ∨ xm_lkV l "AbsenceRows$Persons" xt_T xk_ns (xr_ 1) xk_cl xk_tA n C := fun n C h => (show ∀ q ∈ tP_thereOn, xm_lkS l "AbsenceRows$Persons" xt_T xk_ns (xr_ 1) xk_cl xk_tA q.1 q.2 ∨ xm_lkV l "AbsenceRows$Persons" xt_T xk_ns (xr_ 1) xk_cl xk_tA q.1 q.2 from List.forall_mem_cons.mpr ⟨Or.inl ⟨xy_A_only, xb_A_only, 1, (some .int), xr_ 0, rfl, ⟨xe_A_only, xw_37, ⟨by decide, by decide, by decide +kernel⟩, ⟨Nat.le_of_ble_eq_true rfl, Nat.le_of_ble_eq_true rfl⟩, rfl, rfl⟩, xw_529, Or.inr ⟨"AbsenceRows", xn_10⟩, Or.inl ⟨rfl, uA_only, cA_only l⟩⟩, fun _ h => absurd h List.not_mem_nil⟩) (n, C) h
set_option maxRecDepth 20000 in
set_option maxHeartbeats 2000000 in
theorem cP_thereOn (l : Launch) : xm_Pu l xy_P_thereOn (Cond.code xy_P_thereOn xb_P_thereOn 4 (some .int) :: xt_T) (xr_ 1) xk_cl xk_ns xk_tA pP_thereOn fP_thereOn := by
  refine xm_mk_pu (rt := .int) (fl := xf_P) (ct := tP_thereOn) (cn := []) (cj := []) (plainFor_of_name (by decide)) xs_P xd_P_thereOn rfl (Or.inr rfl) (lP_thereOn l) (fun as M j pc ls st M2 cl => match as with | [_, .int d] => (∃ i c : Nat, M 2 0 = nI c ∧ c ≤ 20 ∧ i ≤ c ∧ j = c - i ∧ pc = 4 ∧ ls = [(0, .ref 2), (1, .int d), (2, .int (xq_o (fun i => xi_w (M 10 i ≤ d) (1 <<< (nI i &&& 31))) i)), (3, .int (nI i))] ∧ st = [] ∧ M2 = M ∧ cl = 0) | _ => False) ?_ ?_ ?_ ?_ ?_
  · rintro as M ⟨d, rfl, ⟨c0, hc0, hc1⟩⟩; exact Nat.le_of_ble_eq_true rfl
  · rintro as M ⟨d, rfl, ⟨c0, hc0, hc1⟩⟩; simp [fP_thereOn]
  · rintro as M v ⟨d, rfl, ⟨c0, hc0, hc1⟩⟩ h; first | rfl | (simp [fP_thereOn] at h)
  · rintro as M ⟨d, rfl, ⟨c0, hc0, hc1⟩⟩ j pc ls st M2 cl ⟨i, c, hc, hc20, hic, hj, rfl, rfl, rfl, rfl, rfl⟩
    refine ⟨400, (And.intro rfl (And.intro (by decide) (And.intro (fun h9 => (And.intro ?g1001_w_36 ?g1002_r_36)) (fun h9 => (And.intro rfl (And.intro rfl (And.intro ?g1003_i_17 (And.intro (by decide) (And.intro (fun h19 => (And.intro (Nat.le_of_ble_eq_true rfl) (And.intro (by decide) ?g1004_k_4))) (fun h19 => (And.intro rfl (And.intro (Nat.le_of_ble_eq_true rfl) (And.intro (Nat.le_of_ble_eq_true rfl) (And.intro ?g1005_c_24 (And.intro (Nat.le_of_ble_eq_true rfl) (And.intro (Nat.le_of_ble_eq_true rfl) (And.intro (by decide) ?g1006_k_4)))))))))))))))))⟩
    case g1001_w_36 =>
      first | rfl | exact xi_nb
    case g1002_r_36 =>
      obtain rfl := xl_end hc (by omega) hic (by assumption)
      refine ⟨xl_some ?_, rfl⟩
      rw [hc, nI_clamp (by omega)]
    case g1003_i_17 =>
      exact vp_in_nI (Nat.lt_of_lt_of_le (xl_lt hc hic h9) hc20) (by decide)
    case g1004_k_4 =>
      have hlt := xl_lt hc hic h9
      have e1 : (nI i).toNatClampNeg = i := nI_clamp (by omega)
      refine ⟨c - (i + 1), by omega, i + 1, c, hc, hc20, by omega, rfl, rfl, ?_, rfl, rfl, rfl⟩
      rw [nI_succ, xq_o1]
      simp only [e1] at *
      first | (rw [xi_wt (by grind [Int32.not_lt, Int32.not_le])]; rfl) | (rw [xi_wf (by grind [Int32.not_lt, Int32.not_le]), xi_or0]; rfl)
    case g1005_c_24 =>
      exact ⟨_, rfl⟩
    case g1006_k_4 =>
      have hlt := xl_lt hc hic h9
      have e1 : (nI i).toNatClampNeg = i := nI_clamp (by omega)
      refine ⟨c - (i + 1), by omega, i + 1, c, hc, hc20, by omega, rfl, rfl, ?_, rfl, rfl, rfl⟩
      rw [nI_succ, xq_o1]
      simp only [e1] at *
      first | (rw [xi_wt (by grind [Int32.not_lt, Int32.not_le])]; rfl) | (rw [xi_wf (by grind [Int32.not_lt, Int32.not_le]), xi_or0]; rfl)
  · rintro as M ⟨d, rfl, ⟨c0, hc0, hc1⟩⟩
    refine ⟨400, (And.intro (Nat.le_of_ble_eq_true rfl) (And.intro (Nat.le_of_ble_eq_true rfl) ?g1_k_4))⟩
    case g1_k_4 =>
      exact ⟨c0 - 0, 0, c0, hc1, hc0, Nat.zero_le _, rfl, rfl, rfl, rfl, rfl, rfl⟩
def pK_absentOn (as : List Value) (M : xm_M) : Prop := ∃ d : Int32, as = [.ref 4, .int d] ∧ (∃ c, c ≤ 80 ∧ M 4 0 = nI c)
noncomputable def fK_absentOn (as : List Value) (M : xm_M) : Option Value × xm_M := match as with
  | [_, .int d] => (some (.int (xq_o (fun i => xi_w (M 23 i = 2 ∧ M 20 i ≤ d ∧ d ≤ M 21 i ∧ ¬ ((d = M 20 i ∧ ¬ M 22 i &&& 1 = 0) ∨ (d = M 21 i ∧ ¬ M 22 i &&& 2 = 0))) (1 <<< (M 18 i &&& 31))) (M 4 0).toNatClampNeg)), M)
  | _ => (none, M)
noncomputable abbrev sK_absentOn : xm_C := (0, 2, 0, pK_absentOn, fK_absentOn)
theorem uK_absentOn : ∀ as M, (fK_absentOn as M).2 = M := by
  intro as M
  unfold fK_absentOn
  split <;> rfl
theorem vK_absentOn : ∀ as M, pK_absentOn as M → ∃ as1, as = .ref 4 :: as1 := by
  rintro as M ⟨d, rfl, ⟨c0, hc0, hc1⟩⟩
  exact ⟨_, rfl⟩
noncomputable def tK_absentOn : List (Nat × xm_C) := [(41, sA_isHalf), (45, sA_only)]
theorem lK_absentOn (l : Launch) : ∀ n C, (n, C) ∈ tK_absentOn → xm_lkS l "AbsenceRows$Asks" xt_T xk_ns (xr_ 1) xk_cl xk_tA n C ∨ xm_lkV l "AbsenceRows$Asks" xt_T xk_ns (xr_ 1) xk_cl xk_tA n C := fun n C h => (show ∀ q ∈ tK_absentOn, xm_lkS l "AbsenceRows$Asks" xt_T xk_ns (xr_ 1) xk_cl xk_tA q.1 q.2 ∨ xm_lkV l "AbsenceRows$Asks" xt_T xk_ns (xr_ 1) xk_cl xk_tA q.1 q.2 from List.forall_mem_cons.mpr ⟨Or.inl ⟨xy_A_isHalf, xb_A_isHalf, 4, (some .boolean), xr_ 0, rfl, ⟨xe_A_isHalf, xw_37, ⟨by decide, by decide, by decide +kernel⟩, ⟨Nat.le_of_ble_eq_true rfl, Nat.le_of_ble_eq_true rfl⟩, rfl, rfl⟩, xw_426, Or.inr ⟨"AbsenceRows", xn_11⟩, Or.inl ⟨rfl, uA_isHalf, cA_isHalf l⟩⟩, List.forall_mem_cons.mpr ⟨Or.inl ⟨xy_A_only, xb_A_only, 1, (some .int), xr_ 0, rfl, ⟨xe_A_only, xw_37, ⟨by decide, by decide, by decide +kernel⟩, ⟨Nat.le_of_ble_eq_true rfl, Nat.le_of_ble_eq_true rfl⟩, rfl, rfl⟩, xw_529, Or.inr ⟨"AbsenceRows", xn_12⟩, Or.inl ⟨rfl, uA_only, cA_only l⟩⟩, fun _ h => absurd h List.not_mem_nil⟩⟩) (n, C) h
set_option maxRecDepth 20000 in
set_option maxHeartbeats 2000000 in
theorem cK_absentOn (l : Launch) : xm_Pu l xy_K_absentOn (Cond.code xy_K_absentOn xb_K_absentOn 4 (some .int) :: xt_T) (xr_ 1) xk_cl xk_ns xk_tA pK_absentOn fK_absentOn := by
  refine xm_mk_pu (rt := .int) (fl := xf_K) (ct := tK_absentOn) (cn := []) (cj := []) (plainFor_of_name (by decide)) xs_K xd_K_absentOn rfl (Or.inr rfl) (lK_absentOn l) (fun as M j pc ls st M2 cl => match as with | [_, .int d] => (∃ i c : Nat, M 4 0 = nI c ∧ c ≤ 80 ∧ i ≤ c ∧ j = c - i ∧ pc = 4 ∧ ls = [(0, .ref 4), (1, .int d), (2, .int (xq_o (fun i => xi_w (M 23 i = 2 ∧ M 20 i ≤ d ∧ d ≤ M 21 i ∧ ¬ ((d = M 20 i ∧ ¬ M 22 i &&& 1 = 0) ∨ (d = M 21 i ∧ ¬ M 22 i &&& 2 = 0))) (1 <<< (M 18 i &&& 31))) i)), (3, .int (nI i))] ∧ st = [] ∧ M2 = M ∧ cl = 0) | _ => False) ?_ ?_ ?_ ?_ ?_
  · rintro as M ⟨d, rfl, ⟨c0, hc0, hc1⟩⟩; exact Nat.le_of_ble_eq_true rfl
  · rintro as M ⟨d, rfl, ⟨c0, hc0, hc1⟩⟩; simp [fK_absentOn]
  · rintro as M v ⟨d, rfl, ⟨c0, hc0, hc1⟩⟩ h; first | rfl | (simp [fK_absentOn] at h)
  · rintro as M ⟨d, rfl, ⟨c0, hc0, hc1⟩⟩ j pc ls st M2 cl ⟨i, c, hc, hc20, hic, hj, rfl, rfl, rfl, rfl, rfl⟩
    refine ⟨400, (And.intro rfl (And.intro (by decide) (And.intro (fun h9 => (And.intro ?g1001_w_86 ?g1002_r_86)) (fun h9 => (And.intro rfl (And.intro rfl (And.intro ?g1003_i_17 (And.intro (by decide) (And.intro (fun h19 => (And.intro (Nat.le_of_ble_eq_true rfl) (And.intro (by decide) ?g1004_k_4))) (fun h19 => (And.intro rfl (And.intro rfl (And.intro ?g1005_i_27 (And.intro (by decide) (And.intro (fun h29 => (And.intro (Nat.le_of_ble_eq_true rfl) (And.intro (by decide) ?g1006_k_4))) (fun h29 => (And.intro rfl (And.intro rfl (And.intro ?g1007_i_38 (And.intro (by decide) (And.intro (fun h39 => (And.intro (Nat.le_of_ble_eq_true rfl) (And.intro (by decide) ?g1008_k_4))) (fun h39 => (And.intro rfl (And.intro rfl (And.intro ?g1009_i_48 (And.intro rfl (And.intro rfl (And.intro ?g1010_i_54 (And.intro rfl (And.intro rfl (And.intro ?g1011_i_60 (And.intro rfl (And.intro (Nat.le_of_ble_eq_true rfl) (And.intro (Nat.le_of_ble_eq_true rfl) (And.intro ?g1012_c_61 (And.intro (by decide) (And.intro (fun h64 => (And.intro (Nat.le_of_ble_eq_true rfl) (And.intro (by decide) ?g1013_k_4))) (fun h64 => (And.intro rfl (And.intro rfl (And.intro ?g1014_i_73 (And.intro rfl (And.intro (Nat.le_of_ble_eq_true rfl) (And.intro (Nat.le_of_ble_eq_true rfl) (And.intro ?g1015_c_74 (And.intro (Nat.le_of_ble_eq_true rfl) (And.intro (Nat.le_of_ble_eq_true rfl) (And.intro (by decide) ?g1016_k_4))))))))))))))))))))))))))))))))))))))))))))))))⟩
    case g1001_w_86 =>
      first | rfl | exact xi_nb
    case g1002_r_86 =>
      obtain rfl := xl_end hc (by omega) hic (by assumption)
      refine ⟨xl_some ?_, rfl⟩
      rw [hc, nI_clamp (by omega)]
    case g1003_i_17 =>
      exact vp_in_nI (Nat.lt_of_lt_of_le (xl_lt hc hic h9) hc20) (by decide)
    case g1004_k_4 =>
      have hlt := xl_lt hc hic h9
      have e1 : (nI i).toNatClampNeg = i := nI_clamp (by omega)
      refine ⟨c - (i + 1), by omega, i + 1, c, hc, hc20, by omega, rfl, rfl, ?_, rfl, rfl, rfl⟩
      rw [nI_succ, xq_o1]
      simp only [e1] at *
      try simp only [xi_0, xi_n0] at *
      first | (rw [xi_wt (by grind [Int32.not_lt, Int32.not_le])]; rfl) | (rw [xi_wf (by grind [Int32.not_lt, Int32.not_le]), xi_or0]; rfl)
    case g1005_i_27 =>
      exact vp_in_nI (Nat.lt_of_lt_of_le (xl_lt hc hic h9) hc20) (by decide)
    case g1006_k_4 =>
      have hlt := xl_lt hc hic h9
      have e1 : (nI i).toNatClampNeg = i := nI_clamp (by omega)
      refine ⟨c - (i + 1), by omega, i + 1, c, hc, hc20, by omega, rfl, rfl, ?_, rfl, rfl, rfl⟩
      rw [nI_succ, xq_o1]
      simp only [e1] at *
      try simp only [xi_0, xi_n0] at *
      first | (rw [xi_wt (by grind [Int32.not_lt, Int32.not_le])]; rfl) | (rw [xi_wf (by grind [Int32.not_lt, Int32.not_le]), xi_or0]; rfl)
    case g1007_i_38 =>
      exact vp_in_nI (Nat.lt_of_lt_of_le (xl_lt hc hic h9) hc20) (by decide)
    case g1008_k_4 =>
      have hlt := xl_lt hc hic h9
      have e1 : (nI i).toNatClampNeg = i := nI_clamp (by omega)
      refine ⟨c - (i + 1), by omega, i + 1, c, hc, hc20, by omega, rfl, rfl, ?_, rfl, rfl, rfl⟩
      rw [nI_succ, xq_o1]
      simp only [e1] at *
      try simp only [xi_0, xi_n0] at *
      first | (rw [xi_wt (by grind [Int32.not_lt, Int32.not_le])]; rfl) | (rw [xi_wf (by grind [Int32.not_lt, Int32.not_le]), xi_or0]; rfl)
    case g1009_i_48 =>
      exact vp_in_nI (Nat.lt_of_lt_of_le (xl_lt hc hic h9) hc20) (by decide)
    case g1010_i_54 =>
      exact vp_in_nI (Nat.lt_of_lt_of_le (xl_lt hc hic h9) hc20) (by decide)
    case g1011_i_60 =>
      exact vp_in_nI (Nat.lt_of_lt_of_le (xl_lt hc hic h9) hc20) (by decide)
    case g1012_c_61 =>
      exact ⟨_, _, _, _, rfl⟩
    case g1013_k_4 =>
      have hlt := xl_lt hc hic h9
      have e1 : (nI i).toNatClampNeg = i := nI_clamp (by omega)
      refine ⟨c - (i + 1), by omega, i + 1, c, hc, hc20, by omega, rfl, rfl, ?_, rfl, rfl, rfl⟩
      rw [nI_succ, xq_o1]
      simp only [e1] at *
      try simp only [xi_0, xi_n0] at *
      first | (rw [xi_wt (by grind [Int32.not_lt, Int32.not_le])]; rfl) | (rw [xi_wf (by grind [Int32.not_lt, Int32.not_le]), xi_or0]; rfl)
    case g1014_i_73 =>
      exact vp_in_nI (Nat.lt_of_lt_of_le (xl_lt hc hic h9) hc20) (by decide)
    case g1015_c_74 =>
      exact ⟨_, rfl⟩
    case g1016_k_4 =>
      have hlt := xl_lt hc hic h9
      have e1 : (nI i).toNatClampNeg = i := nI_clamp (by omega)
      refine ⟨c - (i + 1), by omega, i + 1, c, hc, hc20, by omega, rfl, rfl, ?_, rfl, rfl, rfl⟩
      rw [nI_succ, xq_o1]
      simp only [e1] at *
      try simp only [xi_0, xi_n0] at *
      first | (rw [xi_wt (by grind [Int32.not_lt, Int32.not_le])]; rfl) | (rw [xi_wf (by grind [Int32.not_lt, Int32.not_le]), xi_or0]; rfl)
  · rintro as M ⟨d, rfl, ⟨c0, hc0, hc1⟩⟩
    refine ⟨400, (And.intro (Nat.le_of_ble_eq_true rfl) (And.intro (Nat.le_of_ble_eq_true rfl) ?g1_k_4))⟩
    case g1_k_4 =>
      exact ⟨c0 - 0, 0, c0, hc1, hc0, Nat.zero_le _, rfl, rfl, rfl, rfl, rfl, rfl⟩
def pL_comeTo (as : List Value) (M : xm_M) : Prop := ∃ w d : Int32, as = [.ref 6, .int w, .int d] ∧ (∃ c, c ≤ 60 ∧ M 6 0 = nI c)
noncomputable def fL_comeTo (as : List Value) (M : xm_M) : Option Value × xm_M := match as with
  | [_, .int w, .int d] => (some (.int (xq_o (fun i => xi_w (M 30 i = 1 ∧ M 28 i = w ∧ M 29 i = d) (1 <<< (M 31 i &&& 31))) (M 6 0).toNatClampNeg)), M)
  | _ => (none, M)
noncomputable abbrev sL_comeTo : xm_C := (0, 3, 0, pL_comeTo, fL_comeTo)
theorem uL_comeTo : ∀ as M, (fL_comeTo as M).2 = M := by
  intro as M
  unfold fL_comeTo
  split <;> rfl
theorem vL_comeTo : ∀ as M, pL_comeTo as M → ∃ as1, as = .ref 6 :: as1 := by
  rintro as M ⟨w, d, rfl, ⟨c0, hc0, hc1⟩⟩
  exact ⟨_, rfl⟩
noncomputable def tL_comeTo : List (Nat × xm_C) := [(38, sA_only)]
theorem lL_comeTo (l : Launch) : ∀ n C, (n, C) ∈ tL_comeTo → xm_lkS l "AbsenceRows$Calls" xt_T xk_ns (xr_ 1) xk_cl xk_tA n C ∨ xm_lkV l "AbsenceRows$Calls" xt_T xk_ns (xr_ 1) xk_cl xk_tA n C := fun n C h => (show ∀ q ∈ tL_comeTo, xm_lkS l "AbsenceRows$Calls" xt_T xk_ns (xr_ 1) xk_cl xk_tA q.1 q.2 ∨ xm_lkV l "AbsenceRows$Calls" xt_T xk_ns (xr_ 1) xk_cl xk_tA q.1 q.2 from List.forall_mem_cons.mpr ⟨Or.inl ⟨xy_A_only, xb_A_only, 1, (some .int), xr_ 0, rfl, ⟨xe_A_only, xw_37, ⟨by decide, by decide, by decide +kernel⟩, ⟨Nat.le_of_ble_eq_true rfl, Nat.le_of_ble_eq_true rfl⟩, rfl, rfl⟩, xw_529, Or.inr ⟨"AbsenceRows", xn_13⟩, Or.inl ⟨rfl, uA_only, cA_only l⟩⟩, fun _ h => absurd h List.not_mem_nil⟩) (n, C) h
set_option maxRecDepth 20000 in
set_option maxHeartbeats 2000000 in
theorem cL_comeTo (l : Launch) : xm_Pu l xy_L_comeTo (Cond.code xy_L_comeTo xb_L_comeTo 5 (some .int) :: xt_T) (xr_ 1) xk_cl xk_ns xk_tA pL_comeTo fL_comeTo := by
  refine xm_mk_pu (rt := .int) (fl := xf_L) (ct := tL_comeTo) (cn := []) (cj := []) (plainFor_of_name (by decide)) xs_L xd_L_comeTo rfl (Or.inr rfl) (lL_comeTo l) (fun as M j pc ls st M2 cl => match as with | [_, .int w, .int d] => (∃ i c : Nat, M 6 0 = nI c ∧ c ≤ 60 ∧ i ≤ c ∧ j = c - i ∧ pc = 5 ∧ ls = [(0, .ref 6), (1, .int w), (2, .int d), (3, .int (xq_o (fun i => xi_w (M 30 i = 1 ∧ M 28 i = w ∧ M 29 i = d) (1 <<< (M 31 i &&& 31))) i)), (4, .int (nI i))] ∧ st = [] ∧ M2 = M ∧ cl = 0) | _ => False) ?_ ?_ ?_ ?_ ?_
  · rintro as M ⟨w, d, rfl, ⟨c0, hc0, hc1⟩⟩; exact Nat.le_of_ble_eq_true rfl
  · rintro as M ⟨w, d, rfl, ⟨c0, hc0, hc1⟩⟩; simp [fL_comeTo]
  · rintro as M v ⟨w, d, rfl, ⟨c0, hc0, hc1⟩⟩ h; first | rfl | (simp [fL_comeTo] at h)
  · rintro as M ⟨w, d, rfl, ⟨c0, hc0, hc1⟩⟩ j pc ls st M2 cl ⟨i, c, hc, hc20, hic, hj, rfl, rfl, rfl, rfl, rfl⟩
    refine ⟨400, (And.intro rfl (And.intro (by decide) (And.intro (fun h11 => (And.intro ?g1001_w_67 ?g1002_r_67)) (fun h11 => (And.intro rfl (And.intro rfl (And.intro ?g1003_i_20 (And.intro (by decide) (And.intro (fun h22 => (And.intro (Nat.le_of_ble_eq_true rfl) (And.intro (by decide) ?g1004_k_5))) (fun h22 => (And.intro rfl (And.intro rfl (And.intro ?g1005_i_31 (And.intro (by decide) (And.intro (fun h33 => (And.intro (Nat.le_of_ble_eq_true rfl) (And.intro (by decide) ?g1006_k_5))) (fun h33 => (And.intro rfl (And.intro rfl (And.intro ?g1007_i_42 (And.intro (by decide) (And.intro (fun h44 => (And.intro (Nat.le_of_ble_eq_true rfl) (And.intro (by decide) ?g1008_k_5))) (fun h44 => (And.intro rfl (And.intro rfl (And.intro ?g1009_i_54 (And.intro rfl (And.intro (Nat.le_of_ble_eq_true rfl) (And.intro (Nat.le_of_ble_eq_true rfl) (And.intro ?g1010_c_55 (And.intro (Nat.le_of_ble_eq_true rfl) (And.intro (Nat.le_of_ble_eq_true rfl) (And.intro (by decide) ?g1011_k_5))))))))))))))))))))))))))))))))⟩
    case g1001_w_67 =>
      first | rfl | exact xi_nb
    case g1002_r_67 =>
      obtain rfl := xl_end hc (by omega) hic (by assumption)
      refine ⟨xl_some ?_, rfl⟩
      rw [hc, nI_clamp (by omega)]
    case g1003_i_20 =>
      exact vp_in_nI (Nat.lt_of_lt_of_le (xl_lt hc hic h11) hc20) (by decide)
    case g1004_k_5 =>
      have hlt := xl_lt hc hic h11
      have e1 : (nI i).toNatClampNeg = i := nI_clamp (by omega)
      refine ⟨c - (i + 1), by omega, i + 1, c, hc, hc20, by omega, rfl, rfl, ?_, rfl, rfl, rfl⟩
      rw [nI_succ, xq_o1]
      simp only [e1] at *
      try simp only [xi_0, xi_n0] at *
      first | (rw [xi_wt (by grind [Int32.not_lt, Int32.not_le])]; rfl) | (rw [xi_wf (by grind [Int32.not_lt, Int32.not_le]), xi_or0]; rfl)
    case g1005_i_31 =>
      exact vp_in_nI (Nat.lt_of_lt_of_le (xl_lt hc hic h11) hc20) (by decide)
    case g1006_k_5 =>
      have hlt := xl_lt hc hic h11
      have e1 : (nI i).toNatClampNeg = i := nI_clamp (by omega)
      refine ⟨c - (i + 1), by omega, i + 1, c, hc, hc20, by omega, rfl, rfl, ?_, rfl, rfl, rfl⟩
      rw [nI_succ, xq_o1]
      simp only [e1] at *
      try simp only [xi_0, xi_n0] at *
      first | (rw [xi_wt (by grind [Int32.not_lt, Int32.not_le])]; rfl) | (rw [xi_wf (by grind [Int32.not_lt, Int32.not_le]), xi_or0]; rfl)
    case g1007_i_42 =>
      exact vp_in_nI (Nat.lt_of_lt_of_le (xl_lt hc hic h11) hc20) (by decide)
    case g1008_k_5 =>
      have hlt := xl_lt hc hic h11
      have e1 : (nI i).toNatClampNeg = i := nI_clamp (by omega)
      refine ⟨c - (i + 1), by omega, i + 1, c, hc, hc20, by omega, rfl, rfl, ?_, rfl, rfl, rfl⟩
      rw [nI_succ, xq_o1]
      simp only [e1] at *
      try simp only [xi_0, xi_n0] at *
      first | (rw [xi_wt (by grind [Int32.not_lt, Int32.not_le])]; rfl) | (rw [xi_wf (by grind [Int32.not_lt, Int32.not_le]), xi_or0]; rfl)
    case g1009_i_54 =>
      exact vp_in_nI (Nat.lt_of_lt_of_le (xl_lt hc hic h11) hc20) (by decide)
    case g1010_c_55 =>
      exact ⟨_, rfl⟩
    case g1011_k_5 =>
      have hlt := xl_lt hc hic h11
      have e1 : (nI i).toNatClampNeg = i := nI_clamp (by omega)
      refine ⟨c - (i + 1), by omega, i + 1, c, hc, hc20, by omega, rfl, rfl, ?_, rfl, rfl, rfl⟩
      rw [nI_succ, xq_o1]
      simp only [e1] at *
      try simp only [xi_0, xi_n0] at *
      first | (rw [xi_wt (by grind [Int32.not_lt, Int32.not_le])]; rfl) | (rw [xi_wf (by grind [Int32.not_lt, Int32.not_le]), xi_or0]; rfl)
  · rintro as M ⟨w, d, rfl, ⟨c0, hc0, hc1⟩⟩
    refine ⟨400, (And.intro (Nat.le_of_ble_eq_true rfl) (And.intro (Nat.le_of_ble_eq_true rfl) ?g1_k_5))⟩
    case g1_k_5 =>
      exact ⟨c0 - 0, 0, c0, hc1, hc0, Nat.zero_le _, rfl, rfl, rfl, rfl, rfl, rfl⟩
def pL_engagedOn (as : List Value) (M : xm_M) : Prop := ∃ d : Int32, as = [.ref 6, .int d] ∧ (∃ c, c ≤ 60 ∧ M 6 0 = nI c)
noncomputable def fL_engagedOn (as : List Value) (M : xm_M) : Option Value × xm_M := match as with
  | [_, .int d] => (some (.int (xq_o (fun i => xi_w (M 29 i = d ∧ ¬ M 31 i = -1) (1 <<< (M 31 i &&& 31))) (M 6 0).toNatClampNeg)), M)
  | _ => (none, M)
noncomputable abbrev sL_engagedOn : xm_C := (0, 2, 0, pL_engagedOn, fL_engagedOn)
theorem uL_engagedOn : ∀ as M, (fL_engagedOn as M).2 = M := by
  intro as M
  unfold fL_engagedOn
  split <;> rfl
theorem vL_engagedOn : ∀ as M, pL_engagedOn as M → ∃ as1, as = .ref 6 :: as1 := by
  rintro as M ⟨d, rfl, ⟨c0, hc0, hc1⟩⟩
  exact ⟨_, rfl⟩
noncomputable def tL_engagedOn : List (Nat × xm_C) := [(38, sA_only)]
theorem lL_engagedOn (l : Launch) : ∀ n C, (n, C) ∈ tL_engagedOn → xm_lkS l "AbsenceRows$Calls" xt_T xk_ns (xr_ 1) xk_cl xk_tA n C ∨ xm_lkV l "AbsenceRows$Calls" xt_T xk_ns (xr_ 1) xk_cl xk_tA n C := fun n C h => (show ∀ q ∈ tL_engagedOn, xm_lkS l "AbsenceRows$Calls" xt_T xk_ns (xr_ 1) xk_cl xk_tA q.1 q.2 ∨ xm_lkV l "AbsenceRows$Calls" xt_T xk_ns (xr_ 1) xk_cl xk_tA q.1 q.2 from List.forall_mem_cons.mpr ⟨Or.inl ⟨xy_A_only, xb_A_only, 1, (some .int), xr_ 0, rfl, ⟨xe_A_only, xw_37, ⟨by decide, by decide, by decide +kernel⟩, ⟨Nat.le_of_ble_eq_true rfl, Nat.le_of_ble_eq_true rfl⟩, rfl, rfl⟩, xw_529, Or.inr ⟨"AbsenceRows", xn_13⟩, Or.inl ⟨rfl, uA_only, cA_only l⟩⟩, fun _ h => absurd h List.not_mem_nil⟩) (n, C) h
set_option maxRecDepth 20000 in
set_option maxHeartbeats 2000000 in
theorem cL_engagedOn (l : Launch) : xm_Pu l xy_L_engagedOn (Cond.code xy_L_engagedOn xb_L_engagedOn 4 (some .int) :: xt_T) (xr_ 1) xk_cl xk_ns xk_tA pL_engagedOn fL_engagedOn := by
  refine xm_mk_pu (rt := .int) (fl := xf_L) (ct := tL_engagedOn) (cn := []) (cj := []) (plainFor_of_name (by decide)) xs_L xd_L_engagedOn rfl (Or.inr rfl) (lL_engagedOn l) (fun as M j pc ls st M2 cl => match as with | [_, .int d] => (∃ i c : Nat, M 6 0 = nI c ∧ c ≤ 60 ∧ i ≤ c ∧ j = c - i ∧ pc = 4 ∧ ls = [(0, .ref 6), (1, .int d), (2, .int (xq_o (fun i => xi_w (M 29 i = d ∧ ¬ M 31 i = -1) (1 <<< (M 31 i &&& 31))) i)), (3, .int (nI i))] ∧ st = [] ∧ M2 = M ∧ cl = 0) | _ => False) ?_ ?_ ?_ ?_ ?_
  · rintro as M ⟨d, rfl, ⟨c0, hc0, hc1⟩⟩; exact Nat.le_of_ble_eq_true rfl
  · rintro as M ⟨d, rfl, ⟨c0, hc0, hc1⟩⟩; simp [fL_engagedOn]
  · rintro as M v ⟨d, rfl, ⟨c0, hc0, hc1⟩⟩ h; first | rfl | (simp [fL_engagedOn] at h)
  · rintro as M ⟨d, rfl, ⟨c0, hc0, hc1⟩⟩ j pc ls st M2 cl ⟨i, c, hc, hc20, hic, hj, rfl, rfl, rfl, rfl, rfl⟩
    refine ⟨400, (And.intro rfl (And.intro (by decide) (And.intro (fun h9 => (And.intro ?g1001_w_51 ?g1002_r_51)) (fun h9 => (And.intro rfl (And.intro rfl (And.intro ?g1003_i_17 (And.intro (by decide) (And.intro (fun h19 => (And.intro (Nat.le_of_ble_eq_true rfl) (And.intro (by decide) ?g1004_k_4))) (fun h19 => (And.intro rfl (And.intro rfl (And.intro ?g1005_i_27 (And.intro (by decide) (And.intro (fun h29 => (And.intro (Nat.le_of_ble_eq_true rfl) (And.intro (by decide) ?g1006_k_4))) (fun h29 => (And.intro rfl (And.intro rfl (And.intro ?g1007_i_38 (And.intro rfl (And.intro (Nat.le_of_ble_eq_true rfl) (And.intro (Nat.le_of_ble_eq_true rfl) (And.intro ?g1008_c_39 (And.intro (Nat.le_of_ble_eq_true rfl) (And.intro (Nat.le_of_ble_eq_true rfl) (And.intro (by decide) ?g1009_k_4))))))))))))))))))))))))))⟩
    case g1001_w_51 =>
      first | rfl | exact xi_nb
    case g1002_r_51 =>
      obtain rfl := xl_end hc (by omega) hic (by assumption)
      refine ⟨xl_some ?_, rfl⟩
      rw [hc, nI_clamp (by omega)]
    case g1003_i_17 =>
      exact vp_in_nI (Nat.lt_of_lt_of_le (xl_lt hc hic h9) hc20) (by decide)
    case g1004_k_4 =>
      have hlt := xl_lt hc hic h9
      have e1 : (nI i).toNatClampNeg = i := nI_clamp (by omega)
      refine ⟨c - (i + 1), by omega, i + 1, c, hc, hc20, by omega, rfl, rfl, ?_, rfl, rfl, rfl⟩
      rw [nI_succ, xq_o1]
      simp only [e1] at *
      try simp only [xi_0, xi_n0] at *
      first | (rw [xi_wt (by grind [Int32.not_lt, Int32.not_le])]; rfl) | (rw [xi_wf (by grind [Int32.not_lt, Int32.not_le]), xi_or0]; rfl)
    case g1005_i_27 =>
      exact vp_in_nI (Nat.lt_of_lt_of_le (xl_lt hc hic h9) hc20) (by decide)
    case g1006_k_4 =>
      have hlt := xl_lt hc hic h9
      have e1 : (nI i).toNatClampNeg = i := nI_clamp (by omega)
      refine ⟨c - (i + 1), by omega, i + 1, c, hc, hc20, by omega, rfl, rfl, ?_, rfl, rfl, rfl⟩
      rw [nI_succ, xq_o1]
      simp only [e1] at *
      try simp only [xi_0, xi_n0] at *
      first | (rw [xi_wt (by grind [Int32.not_lt, Int32.not_le])]; rfl) | (rw [xi_wf (by grind [Int32.not_lt, Int32.not_le]), xi_or0]; rfl)
    case g1007_i_38 =>
      exact vp_in_nI (Nat.lt_of_lt_of_le (xl_lt hc hic h9) hc20) (by decide)
    case g1008_c_39 =>
      exact ⟨_, rfl⟩
    case g1009_k_4 =>
      have hlt := xl_lt hc hic h9
      have e1 : (nI i).toNatClampNeg = i := nI_clamp (by omega)
      refine ⟨c - (i + 1), by omega, i + 1, c, hc, hc20, by omega, rfl, rfl, ?_, rfl, rfl, rfl⟩
      rw [nI_succ, xq_o1]
      simp only [e1] at *
      try simp only [xi_0, xi_n0] at *
      first | (rw [xi_wt (by grind [Int32.not_lt, Int32.not_le])]; rfl) | (rw [xi_wf (by grind [Int32.not_lt, Int32.not_le]), xi_or0]; rfl)
  · rintro as M ⟨d, rfl, ⟨c0, hc0, hc1⟩⟩
    refine ⟨400, (And.intro (Nat.le_of_ble_eq_true rfl) (And.intro (Nat.le_of_ble_eq_true rfl) ?g1_k_4))⟩
    case g1_k_4 =>
      exact ⟨c0 - 0, 0, c0, hc1, hc0, Nat.zero_le _, rfl, rfl, rfl, rfl, rfl, rfl⟩
def pL_earliestNextAt (as : List Value) (M : xm_M) : Prop := as = [.ref 6] ∧ (∃ c, c ≤ 60 ∧ M 6 0 = nI c)
noncomputable def fL_earliestNextAt (as : List Value) (M : xm_M) : Option Value × xm_M := match as with
  | [_] => (some (.int (xq_m (M 33) (M 6 0).toNatClampNeg)), M)
  | _ => (none, M)
noncomputable abbrev sL_earliestNextAt : xm_C := (0, 1, 0, pL_earliestNextAt, fL_earliestNextAt)
theorem uL_earliestNextAt : ∀ as M, (fL_earliestNextAt as M).2 = M := by
  intro as M
  unfold fL_earliestNextAt
  split <;> rfl
theorem vL_earliestNextAt : ∀ as M, pL_earliestNextAt as M → ∃ as1, as = .ref 6 :: as1 := by
  rintro as M ⟨rfl, ⟨c0, hc0, hc1⟩⟩
  exact ⟨_, rfl⟩
noncomputable def tL_earliestNextAt : List (Nat × xm_C) := []
theorem lL_earliestNextAt (l : Launch) : ∀ n C, (n, C) ∈ tL_earliestNextAt → xm_lkS l "AbsenceRows$Calls" xt_T xk_ns (xr_ 0) xk_cl xk_tA n C ∨ xm_lkV l "AbsenceRows$Calls" xt_T xk_ns (xr_ 0) xk_cl xk_tA n C := fun n C h => (show ∀ q ∈ tL_earliestNextAt, xm_lkS l "AbsenceRows$Calls" xt_T xk_ns (xr_ 0) xk_cl xk_tA q.1 q.2 ∨ xm_lkV l "AbsenceRows$Calls" xt_T xk_ns (xr_ 0) xk_cl xk_tA q.1 q.2 from fun _ h => absurd h List.not_mem_nil) (n, C) h
set_option maxRecDepth 20000 in
set_option maxHeartbeats 2000000 in
theorem cL_earliestNextAt (l : Launch) : xm_Pu l xy_L_earliestNextAt (Cond.code xy_L_earliestNextAt xb_L_earliestNextAt 3 (some .int) :: xt_T) (xr_ 0) xk_cl xk_ns xk_tA pL_earliestNextAt fL_earliestNextAt := by
  refine xm_mk_pu (rt := .int) (fl := xf_L) (ct := tL_earliestNextAt) (cn := []) (cj := []) (plainFor_of_name (by decide)) xs_L xd_L_earliestNextAt rfl (Or.inr rfl) (lL_earliestNextAt l) (fun as M j pc ls st M2 cl => match as with | [_] => (∃ i c : Nat, M 6 0 = nI c ∧ c ≤ 60 ∧ i ≤ c ∧ j = c - i ∧ pc = 4 ∧ ls = [(0, .ref 6), (1, .int (xq_m (M 33) i)), (2, .int (nI i))] ∧ st = [] ∧ M2 = M ∧ cl = 0) | _ => False) ?_ ?_ ?_ ?_ ?_
  · rintro as M ⟨rfl, ⟨c0, hc0, hc1⟩⟩; exact Nat.le_of_ble_eq_true rfl
  · rintro as M ⟨rfl, ⟨c0, hc0, hc1⟩⟩; simp [fL_earliestNextAt]
  · rintro as M v ⟨rfl, ⟨c0, hc0, hc1⟩⟩ h; first | rfl | (simp [fL_earliestNextAt] at h)
  · rintro as M ⟨rfl, ⟨c0, hc0, hc1⟩⟩ j pc ls st M2 cl ⟨i, c, hc, hc20, hic, hj, rfl, rfl, rfl, rfl, rfl⟩
    refine ⟨400, (And.intro rfl (And.intro (by decide) (And.intro (fun h9 => (And.intro ?g1001_w_51 ?g1002_r_51)) (fun h9 => (And.intro rfl (And.intro rfl (And.intro ?g1003_i_17 (And.intro (by decide) (And.intro (fun h19 => (And.intro (Nat.le_of_ble_eq_true rfl) (And.intro (by decide) ?g1004_k_4))) (fun h19 => (And.intro (by decide) (And.intro (fun h24 => (And.intro rfl (And.intro rfl (And.intro ?g1005_i_42 (And.intro (Nat.le_of_ble_eq_true rfl) (And.intro (Nat.le_of_ble_eq_true rfl) (And.intro (by decide) ?g1006_k_4))))))) (fun h24 => (And.intro rfl (And.intro rfl (And.intro ?g1007_i_32 (And.intro (by decide) (And.intro (fun h34 => (And.intro (Nat.le_of_ble_eq_true rfl) (And.intro (by decide) ?g1008_k_4))) (fun h34 => (And.intro rfl (And.intro rfl (And.intro ?g1009_i_42 (And.intro (Nat.le_of_ble_eq_true rfl) (And.intro (Nat.le_of_ble_eq_true rfl) (And.intro (by decide) ?g1010_k_4)))))))))))))))))))))))))⟩
    case g1001_w_51 =>
      first | rfl | exact xi_nb
    case g1002_r_51 =>
      obtain rfl := xl_end hc (by omega) hic (by assumption)
      refine ⟨xl_some ?_, rfl⟩
      rw [hc, nI_clamp (by omega)]
    case g1003_i_17 =>
      exact vp_in_nI (Nat.lt_of_lt_of_le (xl_lt hc hic h9) hc20) (by decide)
    case g1004_k_4 =>
      have hlt := xl_lt hc hic h9
      have e1 : (nI i).toNatClampNeg = i := nI_clamp (by omega)
      refine ⟨c - (i + 1), by omega, i + 1, c, hc, hc20, by omega, rfl, rfl, ?_, rfl, rfl, rfl⟩
      rw [nI_succ, xq_m1]
      simp only [e1] at *
      first | (rw [xi_xt (by grind [Int32.not_lt, Int32.not_le])]; rfl) | (rw [xi_xf (by grind [Int32.not_lt, Int32.not_le])]; rfl)
    case g1005_i_42 =>
      exact vp_in_nI (Nat.lt_of_lt_of_le (xl_lt hc hic h9) hc20) (by decide)
    case g1006_k_4 =>
      have hlt := xl_lt hc hic h9
      have e1 : (nI i).toNatClampNeg = i := nI_clamp (by omega)
      refine ⟨c - (i + 1), by omega, i + 1, c, hc, hc20, by omega, rfl, rfl, ?_, rfl, rfl, rfl⟩
      rw [nI_succ, xq_m1]
      simp only [e1] at *
      first | (rw [xi_xt (by grind [Int32.not_lt, Int32.not_le])]; rfl) | (rw [xi_xf (by grind [Int32.not_lt, Int32.not_le])]; rfl)
    case g1007_i_32 =>
      exact vp_in_nI (Nat.lt_of_lt_of_le (xl_lt hc hic h9) hc20) (by decide)
    case g1008_k_4 =>
      have hlt := xl_lt hc hic h9
      have e1 : (nI i).toNatClampNeg = i := nI_clamp (by omega)
      refine ⟨c - (i + 1), by omega, i + 1, c, hc, hc20, by omega, rfl, rfl, ?_, rfl, rfl, rfl⟩
      rw [nI_succ, xq_m1]
      simp only [e1] at *
      first | (rw [xi_xt (by grind [Int32.not_lt, Int32.not_le])]; rfl) | (rw [xi_xf (by grind [Int32.not_lt, Int32.not_le])]; rfl)
    case g1009_i_42 =>
      exact vp_in_nI (Nat.lt_of_lt_of_le (xl_lt hc hic h9) hc20) (by decide)
    case g1010_k_4 =>
      have hlt := xl_lt hc hic h9
      have e1 : (nI i).toNatClampNeg = i := nI_clamp (by omega)
      refine ⟨c - (i + 1), by omega, i + 1, c, hc, hc20, by omega, rfl, rfl, ?_, rfl, rfl, rfl⟩
      rw [nI_succ, xq_m1]
      simp only [e1] at *
      first | (rw [xi_xt (by grind [Int32.not_lt, Int32.not_le])]; rfl) | (rw [xi_xf (by grind [Int32.not_lt, Int32.not_le])]; rfl)
  · rintro as M ⟨rfl, ⟨c0, hc0, hc1⟩⟩
    refine ⟨400, (And.intro (Nat.le_of_ble_eq_true rfl) (And.intro (Nat.le_of_ble_eq_true rfl) ?g1_k_4))⟩
    case g1_k_4 =>
      exact ⟨c0 - 0, 0, c0, hc1, hc0, Nat.zero_le _, rfl, rfl, rfl, rfl, rfl, rfl⟩
def pK_overlap (as : List Value) (M : xm_M) : Prop := ∃ p f t : Int32, as = [.ref 4, .int p, .int f, .int t] ∧ (∃ c, c ≤ 80 ∧ M 4 0 = nI c)
noncomputable def fK_overlap (as : List Value) (M : xm_M) : Option Value × xm_M := match as with
  | [_, .int p, .int f, .int t] => (some (.int (xi_b (∃ i, i < (M 4 0).toNatClampNeg ∧ M 18 i = p ∧ ¬ M 23 i = 3 ∧ M 20 i ≤ t ∧ f ≤ M 21 i))), M)
  | _ => (none, M)
noncomputable abbrev sK_overlap : xm_C := (0, 4, 0, pK_overlap, fK_overlap)
theorem uK_overlap : ∀ as M, (fK_overlap as M).2 = M := by
  intro as M
  unfold fK_overlap
  split <;> rfl
theorem vK_overlap : ∀ as M, pK_overlap as M → ∃ as1, as = .ref 4 :: as1 := by
  rintro as M ⟨p, f, t, rfl, ⟨c0, hc0, hc1⟩⟩
  exact ⟨_, rfl⟩
noncomputable def tK_overlap : List (Nat × xm_C) := []
theorem lK_overlap (l : Launch) : ∀ n C, (n, C) ∈ tK_overlap → xm_lkS l "AbsenceRows$Asks" xt_T xk_ns (xr_ 0) xk_cl xk_tA n C ∨ xm_lkV l "AbsenceRows$Asks" xt_T xk_ns (xr_ 0) xk_cl xk_tA n C := fun n C h => (show ∀ q ∈ tK_overlap, xm_lkS l "AbsenceRows$Asks" xt_T xk_ns (xr_ 0) xk_cl xk_tA q.1 q.2 ∨ xm_lkV l "AbsenceRows$Asks" xt_T xk_ns (xr_ 0) xk_cl xk_tA q.1 q.2 from fun _ h => absurd h List.not_mem_nil) (n, C) h
set_option maxRecDepth 20000 in
set_option maxHeartbeats 2000000 in
theorem cK_overlap (l : Launch) : xm_Pu l xy_K_overlap (Cond.code xy_K_overlap xb_K_overlap 5 (some .boolean) :: xt_T) (xr_ 0) xk_cl xk_ns xk_tA pK_overlap fK_overlap := by
  refine xm_mk_pu (rt := .boolean) (fl := xf_K) (ct := tK_overlap) (cn := []) (cj := []) (plainFor_of_name (by decide)) xs_K xd_K_overlap rfl (Or.inr rfl) (lK_overlap l) (fun as M j pc ls st M2 cl => match as with | [_, .int p, .int f, .int t] => (∃ i c : Nat, M 4 0 = nI c ∧ c ≤ 80 ∧ i ≤ c ∧ j = c - i ∧ (∀ k, k < i → ¬ (M 18 k = p ∧ ¬ M 23 k = 3 ∧ M 20 k ≤ t ∧ f ≤ M 21 k)) ∧ pc = 3 ∧ ls = [(0, .ref 4), (1, .int p), (2, .int f), (3, .int t), (4, .int (nI i))] ∧ st = [] ∧ M2 = M ∧ cl = 0) | _ => False) ?_ ?_ ?_ ?_ ?_
  · rintro as M ⟨p, f, t, rfl, ⟨c0, hc0, hc1⟩⟩; exact Nat.le_of_ble_eq_true rfl
  · rintro as M ⟨p, f, t, rfl, ⟨c0, hc0, hc1⟩⟩; simp [fK_overlap]
  · rintro as M v ⟨p, f, t, rfl, ⟨c0, hc0, hc1⟩⟩ h; first | rfl | (simp [fK_overlap] at h)
  · rintro as M ⟨p, f, t, rfl, ⟨c0, hc0, hc1⟩⟩ j pc ls st M2 cl ⟨i, c, hc, hc20, hic, hj, hno, rfl, rfl, rfl, rfl, rfl⟩
    refine ⟨400, (And.intro rfl (And.intro (by decide) (And.intro (fun h9 => (And.intro ?g1001_w_65 ?g1002_r_65)) (fun h9 => (And.intro rfl (And.intro rfl (And.intro ?g1003_i_18 (And.intro (by decide) (And.intro (fun h20 => (And.intro (Nat.le_of_ble_eq_true rfl) (And.intro (by decide) ?g1004_k_3))) (fun h20 => (And.intro rfl (And.intro rfl (And.intro ?g1005_i_29 (And.intro (by decide) (And.intro (fun h31 => (And.intro (Nat.le_of_ble_eq_true rfl) (And.intro (by decide) ?g1006_k_3))) (fun h31 => (And.intro rfl (And.intro rfl (And.intro ?g1007_i_40 (And.intro (by decide) (And.intro (fun h42 => (And.intro (Nat.le_of_ble_eq_true rfl) (And.intro (by decide) ?g1008_k_3))) (fun h42 => (And.intro rfl (And.intro rfl (And.intro ?g1009_i_52 (And.intro (by decide) (And.intro (fun h53 => (And.intro (Nat.le_of_ble_eq_true rfl) (And.intro (by decide) ?g1010_k_3))) (fun h53 => (And.intro ?g1011_w_57 ?g1012_r_57)))))))))))))))))))))))))))))⟩
    case g1001_w_65 =>
      first | rfl | exact xi_nb
    case g1002_r_65 =>
      obtain rfl := xl_end hc (by omega) hic (by assumption)
      refine ⟨xl_some (xi_f ?_).symm, rfl⟩
      rintro ⟨k, hk, hh⟩
      rw [hc, nI_clamp (by omega)] at hk
      exact hno k hk hh
    case g1003_i_18 =>
      exact vp_in_nI (Nat.lt_of_lt_of_le (xl_lt hc hic h9) hc20) (by decide)
    case g1004_k_3 =>
      have hlt := xl_lt hc hic h9
      have e1 : (nI i).toNatClampNeg = i := nI_clamp (by omega)
      refine ⟨c - (i + 1), by omega, i + 1, c, hc, hc20, by omega, rfl, ?_, rfl, ?_, rfl, rfl, rfl⟩
      · intro k hk
        rcases Nat.lt_or_ge k i with q | q
        · exact hno k q
        · obtain rfl : k = i := by omega
          simp only [e1] at *
          grind [Int32.not_lt, Int32.not_le]
      · rw [nI_succ]; rfl
    case g1005_i_29 =>
      exact vp_in_nI (Nat.lt_of_lt_of_le (xl_lt hc hic h9) hc20) (by decide)
    case g1006_k_3 =>
      have hlt := xl_lt hc hic h9
      have e1 : (nI i).toNatClampNeg = i := nI_clamp (by omega)
      refine ⟨c - (i + 1), by omega, i + 1, c, hc, hc20, by omega, rfl, ?_, rfl, ?_, rfl, rfl, rfl⟩
      · intro k hk
        rcases Nat.lt_or_ge k i with q | q
        · exact hno k q
        · obtain rfl : k = i := by omega
          simp only [e1] at *
          grind [Int32.not_lt, Int32.not_le]
      · rw [nI_succ]; rfl
    case g1007_i_40 =>
      exact vp_in_nI (Nat.lt_of_lt_of_le (xl_lt hc hic h9) hc20) (by decide)
    case g1008_k_3 =>
      have hlt := xl_lt hc hic h9
      have e1 : (nI i).toNatClampNeg = i := nI_clamp (by omega)
      refine ⟨c - (i + 1), by omega, i + 1, c, hc, hc20, by omega, rfl, ?_, rfl, ?_, rfl, rfl, rfl⟩
      · intro k hk
        rcases Nat.lt_or_ge k i with q | q
        · exact hno k q
        · obtain rfl : k = i := by omega
          simp only [e1] at *
          grind [Int32.not_lt, Int32.not_le]
      · rw [nI_succ]; rfl
    case g1009_i_52 =>
      exact vp_in_nI (Nat.lt_of_lt_of_le (xl_lt hc hic h9) hc20) (by decide)
    case g1010_k_3 =>
      have hlt := xl_lt hc hic h9
      have e1 : (nI i).toNatClampNeg = i := nI_clamp (by omega)
      refine ⟨c - (i + 1), by omega, i + 1, c, hc, hc20, by omega, rfl, ?_, rfl, ?_, rfl, rfl, rfl⟩
      · intro k hk
        rcases Nat.lt_or_ge k i with q | q
        · exact hno k q
        · obtain rfl : k = i := by omega
          simp only [e1] at *
          grind [Int32.not_lt, Int32.not_le]
      · rw [nI_succ]; rfl
    case g1011_w_57 =>
      first | rfl | exact xi_nb
    case g1012_r_57 =>
      have hlt := xl_lt hc hic h9
      have e1 : (nI i).toNatClampNeg = i := nI_clamp (by omega)
      refine ⟨xl_some (xi_t ⟨i, ?_, ?_⟩).symm, rfl⟩
      · rw [hc, nI_clamp (by omega)]; exact hlt
      · simp only [e1] at *
        grind [Int32.not_lt, Int32.not_le]
  · rintro as M ⟨p, f, t, rfl, ⟨c0, hc0, hc1⟩⟩
    refine ⟨400, (And.intro (Nat.le_of_ble_eq_true rfl) ?g1_k_3)⟩
    case g1_k_3 =>
      exact ⟨c0 - 0, 0, c0, hc1, hc0, Nat.zero_le _, rfl, fun k hk => absurd hk (Nat.not_lt_zero k), rfl, rfl, rfl, rfl, rfl⟩
def pC_workingDays (as : List Value) (M : xm_M) : Prop := ∃ f t : Int32, as = [.ref 1, .int f, .int t] ∧ xv_span f t
noncomputable def fC_workingDays (as : List Value) (M : xm_M) : Option Value × xm_M := match as with
  | [_, .int f, .int t] => (some (.int (xq_s (fun i => xi_w (nI (f.toNatClampNeg + i) - nI (f.toNatClampNeg + i) / 7 * 7 < 5 ∧ M 7 (nI (f.toNatClampNeg + i)).toNatClampNeg = 0) 1) (t.toNatClampNeg + 1 - f.toNatClampNeg))), M)
  | _ => (none, M)
noncomputable abbrev sC_workingDays : xm_C := (0, 3, 0, pC_workingDays, fC_workingDays)
theorem uC_workingDays : ∀ as M, (fC_workingDays as M).2 = M := by
  intro as M
  unfold fC_workingDays
  split <;> rfl
theorem vC_workingDays : ∀ as M, pC_workingDays as M → ∃ as1, as = .ref 1 :: as1 := by
  rintro as M ⟨f, t, rfl, ⟨a0, b0, ha0, hb0, hab0, hb70⟩⟩
  exact ⟨_, rfl⟩
noncomputable def tC_workingDays : List (Nat × xm_C) := [(15, sC_isWorkingDay)]
theorem lC_workingDays (l : Launch) : ∀ n C, (n, C) ∈ tC_workingDays → xm_lkS l "AbsenceRows$Calendar" xt_T xk_ns (xr_ 1) xk_cl xk_tA n C ∨ xm_lkV l "AbsenceRows$Calendar" xt_T xk_ns (xr_ 1) xk_cl xk_tA n C := fun n C h => (show ∀ q ∈ tC_workingDays, xm_lkS l "AbsenceRows$Calendar" xt_T xk_ns (xr_ 1) xk_cl xk_tA q.1 q.2 ∨ xm_lkV l "AbsenceRows$Calendar" xt_T xk_ns (xr_ 1) xk_cl xk_tA q.1 q.2 from List.forall_mem_cons.mpr ⟨Or.inr ⟨xy_C_isWorkingDay, xb_C_isWorkingDay, 2, (some .boolean), xr_ 0, 1, 1, 1, [some 7], xk_T1, 1, rfl, rfl, ⟨xe_C_isWorkingDay, xw_38, ⟨by decide, by decide, by decide +kernel⟩, ⟨Nat.le_of_ble_eq_true rfl, Nat.le_of_ble_eq_true rfl⟩, rfl, rfl⟩, xw_421, xw_422, xw_423, rfl, rfl, vC_isWorkingDay, Or.inl ⟨rfl, uC_isWorkingDay, cC_isWorkingDay l⟩⟩, fun _ h => absurd h List.not_mem_nil⟩) (n, C) h
set_option maxRecDepth 20000 in
set_option maxHeartbeats 2000000 in
theorem cC_workingDays (l : Launch) : xm_Pu l xy_C_workingDays (Cond.code xy_C_workingDays xb_C_workingDays 5 (some .int) :: xt_T) (xr_ 1) xk_cl xk_ns xk_tA pC_workingDays fC_workingDays := by
  refine xm_mk_pu (rt := .int) (fl := xf_C) (ct := tC_workingDays) (cn := []) (cj := []) (plainFor_of_name (by decide)) xs_C xd_C_workingDays rfl (Or.inr rfl) (lC_workingDays l) (fun as M j pc ls st M2 cl => match as with | [_, .int f, .int t] => (∃ i a b : Nat, f = nI a ∧ t = nI b ∧ a ≤ b ∧ b < 730 ∧ i ≤ b + 1 - a ∧ j = b + 1 - a - i ∧ pc = 5 ∧ ls = [(0, .ref 1), (1, .int f), (2, .int t), (3, .int (xq_s (fun i => xi_w (nI (a + i) - nI (a + i) / 7 * 7 < 5 ∧ M 7 (nI (a + i)).toNatClampNeg = 0) 1) i)), (4, .int (nI (a + i)))] ∧ st = [] ∧ M2 = M ∧ cl = 0) | _ => False) ?_ ?_ ?_ ?_ ?_
  · rintro as M ⟨f, t, rfl, ⟨a0, b0, ha0, hb0, hab0, hb70⟩⟩; exact Nat.le_of_ble_eq_true rfl
  · rintro as M ⟨f, t, rfl, ⟨a0, b0, ha0, hb0, hab0, hb70⟩⟩; simp [fC_workingDays]
  · rintro as M v ⟨f, t, rfl, ⟨a0, b0, ha0, hb0, hab0, hb70⟩⟩ h; first | rfl | (simp [fC_workingDays] at h)
  · rintro as M ⟨f, t, rfl, ⟨a0, b0, ha0, hb0, hab0, hb70⟩⟩ j pc ls st M2 cl ⟨i, a, b, ha, hb, hab, hb7, hi, hj, rfl, rfl, rfl, rfl, rfl⟩
    refine ⟨400, (And.intro (by decide) (And.intro (fun h8 => (And.intro ?g1001_w_30 ?g1002_r_30)) (fun h8 => (And.intro rfl (And.intro (Nat.le_of_ble_eq_true rfl) (And.intro (Nat.le_of_ble_eq_true rfl) (And.intro ?g1003_c_14 (And.intro (by decide) (And.intro (fun h17 => (And.intro (Nat.le_of_ble_eq_true rfl) (And.intro (by decide) ?g1004_k_5))) (fun h17 => (And.intro (Nat.le_of_ble_eq_true rfl) (And.intro (Nat.le_of_ble_eq_true rfl) (And.intro (by decide) ?g1005_k_5)))))))))))))⟩
    case g1001_w_30 =>
      first | rfl | exact xi_nb
    case g1002_r_30 =>
      obtain rfl : i = b + 1 - a := xl_de ha hb hb7 hab hi (by assumption)
      refine ⟨xl_some ?_, rfl⟩
      rw [ha, hb, nI_clamp (by omega), nI_clamp (by omega)]
    case g1003_c_14 =>
      exact ⟨_, rfl, xl_d ha hb hb7 h8⟩
    case g1004_k_5 =>
      have hlt := xl_dl ha hb hb7 h8
      have e1 : (nI (a + i)).toNatClampNeg = a + i := nI_clamp (by omega)
      refine ⟨b + 1 - a - (i + 1), by omega, i + 1, a, b, ha, hb, hab, hb7, by omega, rfl, rfl, ?_, rfl, rfl, rfl⟩
      rw [← Nat.add_assoc, nI_succ, xq_s1]
      simp only [e1, xi_0, xi_n0] at *
      first | (rw [xi_wt (by grind [Int32.not_lt, Int32.not_le]), xi_t (by grind [Int32.not_lt, Int32.not_le])]; rfl) | (rw [xi_wt (by grind [Int32.not_lt, Int32.not_le]), xi_f (by grind [Int32.not_lt, Int32.not_le])]; rfl) | (rw [xi_wt (by grind [Int32.not_lt, Int32.not_le])]; rfl) | (rw [xi_wf (by grind [Int32.not_lt, Int32.not_le]), xi_add0]; rfl)
    case g1005_k_5 =>
      have hlt := xl_dl ha hb hb7 h8
      have e1 : (nI (a + i)).toNatClampNeg = a + i := nI_clamp (by omega)
      refine ⟨b + 1 - a - (i + 1), by omega, i + 1, a, b, ha, hb, hab, hb7, by omega, rfl, rfl, ?_, rfl, rfl, rfl⟩
      rw [← Nat.add_assoc, nI_succ, xq_s1]
      simp only [e1, xi_0, xi_n0] at *
      first | (rw [xi_wt (by grind [Int32.not_lt, Int32.not_le]), xi_t (by grind [Int32.not_lt, Int32.not_le])]; rfl) | (rw [xi_wt (by grind [Int32.not_lt, Int32.not_le]), xi_f (by grind [Int32.not_lt, Int32.not_le])]; rfl) | (rw [xi_wt (by grind [Int32.not_lt, Int32.not_le])]; rfl) | (rw [xi_wf (by grind [Int32.not_lt, Int32.not_le]), xi_add0]; rfl)
  · rintro as M ⟨f, t, rfl, ⟨a0, b0, ha0, hb0, hab0, hb70⟩⟩
    refine ⟨400, (And.intro (Nat.le_of_ble_eq_true rfl) (And.intro (Nat.le_of_ble_eq_true rfl) ?g1_k_5))⟩
    case g1_k_5 =>
      refine ⟨b0 + 1 - a0 - 0, 0, a0, b0, ha0, hb0, hab0, hb70, Nat.zero_le _, rfl, rfl, ?_, rfl, rfl, rfl⟩
      rw [ha0, hb0, Nat.add_zero]; rfl
def pC_halfDays (as : List Value) (M : xm_M) : Prop := ∃ f t h : Int32, as = [.ref 1, .int f, .int t, .int h] ∧ xv_span f t
noncomputable def fC_halfDays (as : List Value) (M : xm_M) : Option Value × xm_M := match as with
  | [_, .int f, .int t, .int h] => (some (.int (xq_s (fun i => xi_w (nI (f.toNatClampNeg + i) - nI (f.toNatClampNeg + i) / 7 * 7 < 5 ∧ M 7 (nI (f.toNatClampNeg + i)).toNatClampNeg = 0) (1 + xi_b (¬ ((nI (f.toNatClampNeg + i) = f ∧ ¬ h &&& 1 = 0) ∨ (nI (f.toNatClampNeg + i) = t ∧ ¬ h &&& 2 = 0))))) (t.toNatClampNeg + 1 - f.toNatClampNeg))), M)
  | _ => (none, M)
noncomputable abbrev sC_halfDays : xm_C := (0, 4, 0, pC_halfDays, fC_halfDays)
theorem uC_halfDays : ∀ as M, (fC_halfDays as M).2 = M := by
  intro as M
  unfold fC_halfDays
  split <;> rfl
theorem vC_halfDays : ∀ as M, pC_halfDays as M → ∃ as1, as = .ref 1 :: as1 := by
  rintro as M ⟨f, t, h, rfl, ⟨a0, b0, ha0, hb0, hab0, hb70⟩⟩
  exact ⟨_, rfl⟩
noncomputable def tC_halfDays : List (Nat × xm_C) := [(15, sC_isWorkingDay), (19, sA_isHalf)]
theorem lC_halfDays (l : Launch) : ∀ n C, (n, C) ∈ tC_halfDays → xm_lkS l "AbsenceRows$Calendar" xt_T xk_ns (xr_ 1) xk_cl xk_tA n C ∨ xm_lkV l "AbsenceRows$Calendar" xt_T xk_ns (xr_ 1) xk_cl xk_tA n C := fun n C h => (show ∀ q ∈ tC_halfDays, xm_lkS l "AbsenceRows$Calendar" xt_T xk_ns (xr_ 1) xk_cl xk_tA q.1 q.2 ∨ xm_lkV l "AbsenceRows$Calendar" xt_T xk_ns (xr_ 1) xk_cl xk_tA q.1 q.2 from List.forall_mem_cons.mpr ⟨Or.inr ⟨xy_C_isWorkingDay, xb_C_isWorkingDay, 2, (some .boolean), xr_ 0, 1, 1, 1, [some 7], xk_T1, 1, rfl, rfl, ⟨xe_C_isWorkingDay, xw_38, ⟨by decide, by decide, by decide +kernel⟩, ⟨Nat.le_of_ble_eq_true rfl, Nat.le_of_ble_eq_true rfl⟩, rfl, rfl⟩, xw_421, xw_422, xw_423, rfl, rfl, vC_isWorkingDay, Or.inl ⟨rfl, uC_isWorkingDay, cC_isWorkingDay l⟩⟩, List.forall_mem_cons.mpr ⟨Or.inl ⟨xy_A_isHalf, xb_A_isHalf, 4, (some .boolean), xr_ 0, rfl, ⟨xe_A_isHalf, xw_37, ⟨by decide, by decide, by decide +kernel⟩, ⟨Nat.le_of_ble_eq_true rfl, Nat.le_of_ble_eq_true rfl⟩, rfl, rfl⟩, xw_426, Or.inr ⟨"AbsenceRows", xn_7⟩, Or.inl ⟨rfl, uA_isHalf, cA_isHalf l⟩⟩, fun _ h => absurd h List.not_mem_nil⟩⟩) (n, C) h
set_option maxRecDepth 20000 in
set_option maxHeartbeats 2000000 in
theorem cC_halfDays (l : Launch) : xm_Pu l xy_C_halfDays (Cond.code xy_C_halfDays xb_C_halfDays 6 (some .int) :: xt_T) (xr_ 1) xk_cl xk_ns xk_tA pC_halfDays fC_halfDays := by
  refine xm_mk_pu (rt := .int) (fl := xf_C) (ct := tC_halfDays) (cn := []) (cj := []) (plainFor_of_name (by decide)) xs_C xd_C_halfDays rfl (Or.inr rfl) (lC_halfDays l) (fun as M j pc ls st M2 cl => match as with | [_, .int f, .int t, .int h] => (∃ i a b : Nat, f = nI a ∧ t = nI b ∧ a ≤ b ∧ b < 730 ∧ i ≤ b + 1 - a ∧ j = b + 1 - a - i ∧ pc = 6 ∧ ls = [(0, .ref 1), (1, .int f), (2, .int t), (3, .int h), (4, .int (xq_s (fun i => xi_w (nI (a + i) - nI (a + i) / 7 * 7 < 5 ∧ M 7 (nI (a + i)).toNatClampNeg = 0) (1 + xi_b (¬ ((nI (a + i) = f ∧ ¬ h &&& 1 = 0) ∨ (nI (a + i) = t ∧ ¬ h &&& 2 = 0))))) i)), (5, .int (nI (a + i)))] ∧ st = [] ∧ M2 = M ∧ cl = 0) | _ => False) ?_ ?_ ?_ ?_ ?_
  · rintro as M ⟨f, t, h, rfl, ⟨a0, b0, ha0, hb0, hab0, hb70⟩⟩; exact Nat.le_of_ble_eq_true rfl
  · rintro as M ⟨f, t, h, rfl, ⟨a0, b0, ha0, hb0, hab0, hb70⟩⟩; simp [fC_halfDays]
  · rintro as M v ⟨f, t, h, rfl, ⟨a0, b0, ha0, hb0, hab0, hb70⟩⟩ h; first | rfl | (simp [fC_halfDays] at h)
  · rintro as M ⟨f, t, h, rfl, ⟨a0, b0, ha0, hb0, hab0, hb70⟩⟩ j pc ls st M2 cl ⟨i, a, b, ha, hb, hab, hb7, hi, hj, rfl, rfl, rfl, rfl, rfl⟩
    refine ⟨400, (And.intro (by decide) (And.intro (fun h9 => (And.intro ?g1001_w_50 ?g1002_r_50)) (fun h9 => (And.intro rfl (And.intro (Nat.le_of_ble_eq_true rfl) (And.intro (Nat.le_of_ble_eq_true rfl) (And.intro ?g1003_c_15 (And.intro (by decide) (And.intro (fun h18 => (And.intro (Nat.le_of_ble_eq_true rfl) (And.intro (by decide) ?g1004_k_6))) (fun h18 => (And.intro rfl (And.intro (Nat.le_of_ble_eq_true rfl) (And.intro (Nat.le_of_ble_eq_true rfl) (And.intro ?g1005_c_28 (And.intro (by decide) (And.intro (fun h31 => (And.intro (Nat.le_of_ble_eq_true rfl) (And.intro (Nat.le_of_ble_eq_true rfl) (And.intro (by decide) ?g1006_k_6)))) (fun h31 => (And.intro (by decide) (And.intro (Nat.le_of_ble_eq_true rfl) (And.intro (Nat.le_of_ble_eq_true rfl) (And.intro (by decide) ?g1007_k_6)))))))))))))))))))))⟩
    case g1001_w_50 =>
      first | rfl | exact xi_nb
    case g1002_r_50 =>
      obtain rfl : i = b + 1 - a := xl_de ha hb hb7 hab hi (by assumption)
      refine ⟨xl_some ?_, rfl⟩
      rw [ha, hb, nI_clamp (by omega), nI_clamp (by omega)]
    case g1003_c_15 =>
      exact ⟨_, rfl, xl_d ha hb hb7 h9⟩
    case g1004_k_6 =>
      have hlt := xl_dl ha hb hb7 h9
      have e1 : (nI (a + i)).toNatClampNeg = a + i := nI_clamp (by omega)
      refine ⟨b + 1 - a - (i + 1), by omega, i + 1, a, b, ha, hb, hab, hb7, by omega, rfl, rfl, ?_, rfl, rfl, rfl⟩
      rw [← Nat.add_assoc, nI_succ, xq_s1]
      simp only [e1, xi_0, xi_n0] at *
      first | (rw [xi_wt (by grind [Int32.not_lt, Int32.not_le]), xi_t (by grind [Int32.not_lt, Int32.not_le])]; rfl) | (rw [xi_wt (by grind [Int32.not_lt, Int32.not_le]), xi_f (by grind [Int32.not_lt, Int32.not_le])]; rfl) | (rw [xi_wt (by grind [Int32.not_lt, Int32.not_le])]; rfl) | (rw [xi_wf (by grind [Int32.not_lt, Int32.not_le]), xi_add0]; rfl)
    case g1005_c_28 =>
      exact ⟨_, _, _, _, rfl⟩
    case g1006_k_6 =>
      have hlt := xl_dl ha hb hb7 h9
      have e1 : (nI (a + i)).toNatClampNeg = a + i := nI_clamp (by omega)
      refine ⟨b + 1 - a - (i + 1), by omega, i + 1, a, b, ha, hb, hab, hb7, by omega, rfl, rfl, ?_, rfl, rfl, rfl⟩
      rw [← Nat.add_assoc, nI_succ, xq_s1]
      simp only [e1, xi_0, xi_n0] at *
      first | (rw [xi_wt (by grind [Int32.not_lt, Int32.not_le]), xi_t (by grind [Int32.not_lt, Int32.not_le])]; rfl) | (rw [xi_wt (by grind [Int32.not_lt, Int32.not_le]), xi_f (by grind [Int32.not_lt, Int32.not_le])]; rfl) | (rw [xi_wt (by grind [Int32.not_lt, Int32.not_le])]; rfl) | (rw [xi_wf (by grind [Int32.not_lt, Int32.not_le]), xi_add0]; rfl)
    case g1007_k_6 =>
      have hlt := xl_dl ha hb hb7 h9
      have e1 : (nI (a + i)).toNatClampNeg = a + i := nI_clamp (by omega)
      refine ⟨b + 1 - a - (i + 1), by omega, i + 1, a, b, ha, hb, hab, hb7, by omega, rfl, rfl, ?_, rfl, rfl, rfl⟩
      rw [← Nat.add_assoc, nI_succ, xq_s1]
      simp only [e1, xi_0, xi_n0] at *
      first | (rw [xi_wt (by grind [Int32.not_lt, Int32.not_le]), xi_t (by grind [Int32.not_lt, Int32.not_le])]; rfl) | (rw [xi_wt (by grind [Int32.not_lt, Int32.not_le]), xi_f (by grind [Int32.not_lt, Int32.not_le])]; rfl) | (rw [xi_wt (by grind [Int32.not_lt, Int32.not_le])]; rfl) | (rw [xi_wf (by grind [Int32.not_lt, Int32.not_le]), xi_add0]; rfl)
  · rintro as M ⟨f, t, h, rfl, ⟨a0, b0, ha0, hb0, hab0, hb70⟩⟩
    refine ⟨400, (And.intro (Nat.le_of_ble_eq_true rfl) (And.intro (Nat.le_of_ble_eq_true rfl) ?g1_k_6))⟩
    case g1_k_6 =>
      refine ⟨b0 + 1 - a0 - 0, 0, a0, b0, ha0, hb0, hab0, hb70, Nat.zero_le _, rfl, rfl, ?_, rfl, rfl, rfl⟩
      rw [ha0, hb0, Nat.add_zero]; rfl
end
section
/-! THE CLASS's own numbers: what is left, who is there, who is next -/
noncomputable def xd_hd (fr : Nat → Int32) (f t h : Int32) : Int32 := xq_s (fun i => xi_w (nI (f.toNatClampNeg + i) - nI (f.toNatClampNeg + i) / 7 * 7 < 5 ∧ fr (nI (f.toNatClampNeg + i)).toNatClampNeg = 0) (1 + xi_b (¬ ((nI (f.toNatClampNeg + i) = f ∧ ¬ h &&& 1 = 0) ∨ (nI (f.toNatClampNeg + i) = t ∧ ¬ h &&& 2 = 0))))) (t.toNatClampNeg + 1 - f.toNatClampNeg)
noncomputable def xd_hh (M : xm_M) (p y : Int32) : Int32 := xq_s (fun i => xi_w (M 19 i = 0 ∧ ¬ M 23 i = 3 ∧ M 18 i = p ∧ M 20 i / 365 = y) (xd_hd (M 7) (M 20 i) (M 21 i) (M 22 i))) (M 4 0).toNatClampNeg
def xd_dt (s y : Int32) : Int32 := (fun z : Int32 => if (0 : Int32) < z then z else 0) ((fun z : Int32 => if z < 365 then z else 365) ((y + 1) * 365 - s))
noncomputable def xd_py (M : xm_M) (u d p y x : Int32) : Int32 := 2 * u * xd_dt (M 10 p.toNatClampNeg) y - 365 * d * (xd_hh M p y + x)
def xd_pc (cr d z : Int32) : Int32 := (fun w : Int32 => if (0 : Int32) < w then w else 0) (if cr * (730 * d) < z then cr * (730 * d) else z)
def xd_en (M : xm_M) (u d p a b : Int32) : Prop := 0 ≤ xd_py M u d p 0 a ∧ 0 ≤ xd_py M u d p 1 b + xd_pc (M 0 6) d (xd_py M u d p 0 a)
/-- the asks are within their arrays, their days within the calendar -/
def xv_K (M : xm_M) : Prop := ∃ c, c ≤ 80 ∧ M 4 0 = nI c ∧ ∀ i, i < c → xv_span (M 20 i) (M 21 i)
theorem xv_K.n {M : xm_M} (h : xv_K M) : ∃ c, c ≤ 80 ∧ M 4 0 = nI c := by
  obtain ⟨c, h1, h2, -⟩ := h
  exact ⟨c, h1, h2⟩
def pA_halfDaysOf (as : List Value) (M : xm_M) : Prop := ∃ a : Int32, as = [.ref 0, .int a] ∧ vp_in a 80 ∧ xv_span (M 20 a.toNatClampNeg) (M 21 a.toNatClampNeg)
noncomputable def fA_halfDaysOf (as : List Value) (M : xm_M) : Option Value × xm_M := match as with
  | [_, .int a] => (some (.int (xd_hd (M 7) (M 20 a.toNatClampNeg) (M 21 a.toNatClampNeg) (M 22 a.toNatClampNeg))), M)
  | _ => (none, M)
noncomputable abbrev sA_halfDaysOf : xm_C := (0, 2, 0, pA_halfDaysOf, fA_halfDaysOf)
theorem uA_halfDaysOf : ∀ as M, (fA_halfDaysOf as M).2 = M := by
  intro as M
  unfold fA_halfDaysOf
  split <;> rfl
theorem vA_halfDaysOf : ∀ as M, pA_halfDaysOf as M → ∃ as1, as = .ref 0 :: as1 := by
  rintro as M ⟨a, rfl, ⟨hp1, hp2⟩⟩
  exact ⟨_, rfl⟩
noncomputable def tA_halfDaysOf : List (Nat × xm_C) := [(342, sC_halfDays)]
theorem lA_halfDaysOf (l : Launch) : ∀ n C, (n, C) ∈ tA_halfDaysOf → xm_lkS l "AbsenceRows" xt_T xk_ns (xr_ 2) xk_cl xk_tA n C ∨ xm_lkV l "AbsenceRows" xt_T xk_ns (xr_ 2) xk_cl xk_tA n C := fun n C h => (show ∀ q ∈ tA_halfDaysOf, xm_lkS l "AbsenceRows" xt_T xk_ns (xr_ 2) xk_cl xk_tA q.1 q.2 ∨ xm_lkV l "AbsenceRows" xt_T xk_ns (xr_ 2) xk_cl xk_tA q.1 q.2 from List.forall_mem_cons.mpr ⟨Or.inr ⟨xy_C_halfDays, xb_C_halfDays, 6, (some .int), xr_ 1, 3, 1, 1, [some 7], xk_T1, 1, rfl, rfl, ⟨xe_C_halfDays, xw_38, ⟨by decide, by decide, by decide +kernel⟩, ⟨Nat.le_of_ble_eq_true rfl, Nat.le_of_ble_eq_true rfl⟩, rfl, rfl⟩, xw_417, xw_418, xw_419, rfl, rfl, vC_halfDays, Or.inl ⟨rfl, uC_halfDays, cC_halfDays l⟩⟩, fun _ h => absurd h List.not_mem_nil⟩) (n, C) h
set_option maxRecDepth 20000 in
set_option maxHeartbeats 2000000 in
theorem cA_halfDaysOf (l : Launch) : xm_Pu l xy_A_halfDaysOf (Cond.code xy_A_halfDaysOf xb_A_halfDaysOf 2 (some .int) :: xt_T) (xr_ 2) xk_cl xk_ns xk_tA pA_halfDaysOf fA_halfDaysOf := by
  refine xm_mk_pu (rt := .int) (fl := xf_A) (ct := tA_halfDaysOf) (cn := []) (cj := []) (plainFor_of_name (by decide)) xs_A xd_A_halfDaysOf rfl (Or.inr rfl) (lA_halfDaysOf l) (fun _ _ _ _ _ _ _ _ => False) ?_ ?_ ?_ (fun _ _ _ _ _ _ _ _ _ h => h.elim) ?_
  · rintro as M ⟨a, rfl, ⟨hp1, hp2⟩⟩; exact Nat.le_of_ble_eq_true rfl
  · rintro as M ⟨a, rfl, ⟨hp1, hp2⟩⟩; simp [fA_halfDaysOf]
  · rintro as M v ⟨a, rfl, ⟨hp1, hp2⟩⟩ h; first | rfl | (simp [fA_halfDaysOf] at h)
  · rintro as M ⟨a, rfl, ⟨hp1, hp2⟩⟩
    refine ⟨400, (And.intro rfl (And.intro rfl (And.intro rfl (And.intro rfl (And.intro ?g1_i_12 (And.intro rfl (And.intro rfl (And.intro rfl (And.intro ?g2_i_21 (And.intro rfl (And.intro rfl (And.intro rfl (And.intro ?g3_i_30 (And.intro rfl (And.intro (Nat.le_of_ble_eq_true rfl) (And.intro (Nat.le_of_ble_eq_true rfl) (And.intro ?g4_c_31 (And.intro ?g5_w_34 ?g6_r_34))))))))))))))))))⟩
    case g1_i_12 =>
      exact hp1
    case g2_i_21 =>
      exact hp1
    case g3_i_30 =>
      exact hp1
    case g4_c_31 =>
      exact ⟨_, _, _, rfl, hp2⟩
    case g5_w_34 =>
      first | rfl | exact xi_nb
    case g6_r_34 =>
      exact ⟨rfl, rfl⟩
def pA_halfDaysOfHoliday (as : List Value) (M : xm_M) : Prop := ∃ p y : Int32, as = [.ref 0, .int p, .int y] ∧ xv_K M
noncomputable def fA_halfDaysOfHoliday (as : List Value) (M : xm_M) : Option Value × xm_M := match as with
  | [_, .int p, .int y] => (some (.int (xd_hh M p y)), M)
  | _ => (none, M)
noncomputable abbrev sA_halfDaysOfHoliday : xm_C := (0, 3, 0, pA_halfDaysOfHoliday, fA_halfDaysOfHoliday)
theorem uA_halfDaysOfHoliday : ∀ as M, (fA_halfDaysOfHoliday as M).2 = M := by
  intro as M
  unfold fA_halfDaysOfHoliday
  split <;> rfl
theorem vA_halfDaysOfHoliday : ∀ as M, pA_halfDaysOfHoliday as M → ∃ as1, as = .ref 0 :: as1 := by
  rintro as M ⟨p, y, rfl, hpre⟩
  exact ⟨_, rfl⟩
noncomputable def tA_halfDaysOfHoliday : List (Nat × xm_C) := [(354, sK_takesFromBudget), (165, sA_yearOf), (234, sA_halfDaysOf)]
theorem lA_halfDaysOfHoliday (l : Launch) : ∀ n C, (n, C) ∈ tA_halfDaysOfHoliday → xm_lkS l "AbsenceRows" xt_T xk_ns (xr_ 3) xk_cl xk_tA n C ∨ xm_lkV l "AbsenceRows" xt_T xk_ns (xr_ 3) xk_cl xk_tA n C := fun n C h => (show ∀ q ∈ tA_halfDaysOfHoliday, xm_lkS l "AbsenceRows" xt_T xk_ns (xr_ 3) xk_cl xk_tA q.1 q.2 ∨ xm_lkV l "AbsenceRows" xt_T xk_ns (xr_ 3) xk_cl xk_tA q.1 q.2 from List.forall_mem_cons.mpr ⟨Or.inr ⟨xy_K_takesFromBudget, xb_K_takesFromBudget, 2, (some .boolean), xr_ 0, 1, 4, 4, [none, some 18, some 19, some 20, some 21, some 22, some 23, some 24], xk_T4, 8, rfl, rfl, ⟨xe_K_takesFromBudget, xw_41, ⟨by decide, by decide, by decide +kernel⟩, ⟨Nat.le_of_ble_eq_true rfl, Nat.le_of_ble_eq_true rfl⟩, rfl, rfl⟩, xw_406, xw_407, xw_408, rfl, rfl, vK_takesFromBudget, Or.inl ⟨rfl, uK_takesFromBudget, cK_takesFromBudget l⟩⟩, List.forall_mem_cons.mpr ⟨Or.inl ⟨xy_A_yearOf, xb_A_yearOf, 1, (some .int), xr_ 0, rfl, ⟨xe_A_yearOf, xw_37, ⟨by decide, by decide, by decide +kernel⟩, ⟨Nat.le_of_ble_eq_true rfl, Nat.le_of_ble_eq_true rfl⟩, rfl, rfl⟩, xw_411, Or.inl xw_410, Or.inl ⟨rfl, uA_yearOf, cA_yearOf l⟩⟩, List.forall_mem_cons.mpr ⟨Or.inr ⟨xy_A_halfDaysOf, xb_A_halfDaysOf, 2, (some .int), xr_ 2, 1, 0, 0, [some 1, some 2, some 3, some 4, some 5, some 6, none, none, none], xk_T0, 9, rfl, rfl, ⟨xe_A_halfDaysOf, xw_37, ⟨by decide, by decide, by decide +kernel⟩, ⟨Nat.le_of_ble_eq_true rfl, Nat.le_of_ble_eq_true rfl⟩, rfl, rfl⟩, xw_413, xw_415, xw_4, rfl, rfl, vA_halfDaysOf, Or.inl ⟨rfl, uA_halfDaysOf, cA_halfDaysOf l⟩⟩, fun _ h => absurd h List.not_mem_nil⟩⟩⟩) (n, C) h
set_option maxRecDepth 20000 in
set_option maxHeartbeats 2000000 in
theorem cA_halfDaysOfHoliday (l : Launch) : xm_Pu l xy_A_halfDaysOfHoliday (Cond.code xy_A_halfDaysOfHoliday xb_A_halfDaysOfHoliday 5 (some .int) :: xt_T) (xr_ 3) xk_cl xk_ns xk_tA pA_halfDaysOfHoliday fA_halfDaysOfHoliday := by
  refine xm_mk_pu (rt := .int) (fl := xf_A) (ct := tA_halfDaysOfHoliday) (cn := []) (cj := []) (plainFor_of_name (by decide)) xs_A xd_A_halfDaysOfHoliday rfl (Or.inr rfl) (lA_halfDaysOfHoliday l) (fun as M j pc ls st M2 cl => match as with | [_, .int p, .int y] => (∃ i c : Nat, M 4 0 = nI c ∧ c ≤ 80 ∧ i ≤ c ∧ j = c - i ∧ (∀ k, k < c → xv_span (M 20 k) (M 21 k)) ∧ pc = 5 ∧ ls = [(0, .ref 0), (1, .int p), (2, .int y), (3, .int (xq_s (fun i => xi_w (M 19 i = 0 ∧ ¬ M 23 i = 3 ∧ M 18 i = p ∧ M 20 i / 365 = y) (xd_hd (M 7) (M 20 i) (M 21 i) (M 22 i))) i)), (4, .int (nI i))] ∧ st = [] ∧ M2 = M ∧ cl = 0) | _ => False) ?_ ?_ ?_ ?_ ?_
  · rintro as M ⟨p, y, rfl, hpre⟩; exact Nat.le_of_ble_eq_true rfl
  · rintro as M ⟨p, y, rfl, hpre⟩; simp [fA_halfDaysOfHoliday]
  · rintro as M v ⟨p, y, rfl, hpre⟩ h; first | rfl | (simp [fA_halfDaysOfHoliday] at h)
  · rintro as M ⟨p, y, rfl, hpre⟩ j pc ls st M2 cl ⟨i, c, hc, hc20, hic, hj, hsp, rfl, rfl, rfl, rfl, rfl⟩
    refine ⟨400, (And.intro rfl (And.intro rfl (And.intro (by decide) (And.intro (fun h14 => (And.intro ?g1001_w_76 ?g1002_r_76)) (fun h14 => (And.intro rfl (And.intro rfl (And.intro (Nat.le_of_ble_eq_true rfl) (And.intro (Nat.le_of_ble_eq_true rfl) (And.intro ?g1003_c_23 (And.intro (by decide) (And.intro (fun h26 => (And.intro (Nat.le_of_ble_eq_true rfl) (And.intro (by decide) ?g1004_k_5))) (fun h26 => (And.intro rfl (And.intro rfl (And.intro rfl (And.intro ?g1005_i_38 (And.intro (by decide) (And.intro (fun h40 => (And.intro (Nat.le_of_ble_eq_true rfl) (And.intro (by decide) ?g1006_k_5))) (fun h40 => (And.intro rfl (And.intro rfl (And.intro rfl (And.intro ?g1007_i_52 (And.intro rfl (And.intro (Nat.le_of_ble_eq_true rfl) (And.intro (Nat.le_of_ble_eq_true rfl) (And.intro ?g1008_c_53 (And.intro (by decide) (And.intro (fun h57 => (And.intro (Nat.le_of_ble_eq_true rfl) (And.intro (by decide) ?g1009_k_5))) (fun h57 => (And.intro rfl (And.intro (Nat.le_of_ble_eq_true rfl) (And.intro (Nat.le_of_ble_eq_true rfl) (And.intro ?g1010_c_64 (And.intro (Nat.le_of_ble_eq_true rfl) (And.intro (Nat.le_of_ble_eq_true rfl) (And.intro (by decide) ?g1011_k_5))))))))))))))))))))))))))))))))))))))⟩
    case g1001_w_76 =>
      first | rfl | exact xi_nb
    case g1002_r_76 =>
      obtain rfl := xl_end hc (by omega) hic (by assumption)
      refine ⟨xl_some ?_, rfl⟩
      unfold xd_hh
      rw [hc, nI_clamp (by omega)]
    case g1003_c_23 =>
      exact ⟨_, rfl, vp_in_nI (Nat.lt_of_lt_of_le (xl_lt hc hic h14) hc20) (by decide)⟩
    case g1004_k_5 =>
      have hlt := xl_lt hc hic h14
      have e1 : (nI i).toNatClampNeg = i := nI_clamp (by omega)
      refine ⟨c - (i + 1), by omega, i + 1, c, hc, hc20, by omega, rfl, hsp, rfl, ?_, rfl, rfl, rfl⟩
      rw [nI_succ, xq_s1]
      simp only [e1, xi_0, xi_n0] at *
      first | (rw [xi_wt (by grind)]; rfl) | (rw [xi_wf (by grind), xi_add0]; rfl)
    case g1005_i_38 =>
      exact vp_in_nI (Nat.lt_of_lt_of_le (xl_lt hc hic h14) hc20) (by decide)
    case g1006_k_5 =>
      have hlt := xl_lt hc hic h14
      have e1 : (nI i).toNatClampNeg = i := nI_clamp (by omega)
      refine ⟨c - (i + 1), by omega, i + 1, c, hc, hc20, by omega, rfl, hsp, rfl, ?_, rfl, rfl, rfl⟩
      rw [nI_succ, xq_s1]
      simp only [e1, xi_0, xi_n0] at *
      first | (rw [xi_wt (by grind)]; rfl) | (rw [xi_wf (by grind), xi_add0]; rfl)
    case g1007_i_52 =>
      exact vp_in_nI (Nat.lt_of_lt_of_le (xl_lt hc hic h14) hc20) (by decide)
    case g1008_c_53 =>
      exact ⟨_, rfl⟩
    case g1009_k_5 =>
      have hlt := xl_lt hc hic h14
      have e1 : (nI i).toNatClampNeg = i := nI_clamp (by omega)
      refine ⟨c - (i + 1), by omega, i + 1, c, hc, hc20, by omega, rfl, hsp, rfl, ?_, rfl, rfl, rfl⟩
      rw [nI_succ, xq_s1]
      simp only [e1, xi_0, xi_n0] at *
      first | (rw [xi_wt (by grind)]; rfl) | (rw [xi_wf (by grind), xi_add0]; rfl)
    case g1010_c_64 =>
      have hlt := xl_lt hc hic h14
      refine ⟨_, rfl, vp_in_nI (Nat.lt_of_lt_of_le hlt hc20) (by decide), ?_⟩
      rw [nI_clamp (by omega)]; exact hsp i hlt
    case g1011_k_5 =>
      have hlt := xl_lt hc hic h14
      have e1 : (nI i).toNatClampNeg = i := nI_clamp (by omega)
      refine ⟨c - (i + 1), by omega, i + 1, c, hc, hc20, by omega, rfl, hsp, rfl, ?_, rfl, rfl, rfl⟩
      rw [nI_succ, xq_s1]
      simp only [e1, xi_0, xi_n0] at *
      first | (rw [xi_wt (by grind)]; rfl) | (rw [xi_wf (by grind), xi_add0]; rfl)
  · rintro as M ⟨p, y, rfl, hpre⟩
    refine ⟨400, (And.intro (Nat.le_of_ble_eq_true rfl) (And.intro (Nat.le_of_ble_eq_true rfl) ?g1_k_5))⟩
    case g1_k_5 =>
      obtain ⟨c0, h1, h2, h3⟩ := hpre
      exact ⟨c0 - 0, 0, c0, h2, h1, Nat.zero_le _, rfl, h3, rfl, rfl, rfl, rfl, rfl⟩
def pA_partsOfYear (as : List Value) (M : xm_M) : Prop := ∃ u d p y x : Int32, as = [.ref 0, .int u, .int d, .int p, .int y, .int x] ∧ vp_in p 20 ∧ xv_K M
noncomputable def fA_partsOfYear (as : List Value) (M : xm_M) : Option Value × xm_M := match as with
  | [_, .int u, .int d, .int p, .int y, .int x] => (some (.int (xd_py M u d p y x)), M)
  | _ => (none, M)
noncomputable abbrev sA_partsOfYear : xm_C := (0, 6, 0, pA_partsOfYear, fA_partsOfYear)
theorem uA_partsOfYear : ∀ as M, (fA_partsOfYear as M).2 = M := by
  intro as M
  unfold fA_partsOfYear
  split <;> rfl
theorem vA_partsOfYear : ∀ as M, pA_partsOfYear as M → ∃ as1, as = .ref 0 :: as1 := by
  rintro as M ⟨u, d, p, y, x, rfl, ⟨hp1, hp2⟩⟩
  exact ⟨_, rfl⟩
noncomputable def tA_partsOfYear : List (Nat × xm_C) := [(319, sA_halfDaysOfHoliday), (322, sP_daysThere), (325, sA_partsOfHalfDay)]
theorem lA_partsOfYear (l : Launch) : ∀ n C, (n, C) ∈ tA_partsOfYear → xm_lkS l "AbsenceRows" xt_T xk_ns (xr_ 4) xk_cl xk_tA n C ∨ xm_lkV l "AbsenceRows" xt_T xk_ns (xr_ 4) xk_cl xk_tA n C := fun n C h => (show ∀ q ∈ tA_partsOfYear, xm_lkS l "AbsenceRows" xt_T xk_ns (xr_ 4) xk_cl xk_tA q.1 q.2 ∨ xm_lkV l "AbsenceRows" xt_T xk_ns (xr_ 4) xk_cl xk_tA q.1 q.2 from List.forall_mem_cons.mpr ⟨Or.inr ⟨xy_A_halfDaysOfHoliday, xb_A_halfDaysOfHoliday, 5, (some .int), xr_ 3, 2, 0, 0, [some 1, some 2, some 3, some 4, some 5, some 6, none, none, none], xk_T0, 9, rfl, rfl, ⟨xe_A_halfDaysOfHoliday, xw_37, ⟨by decide, by decide, by decide +kernel⟩, ⟨Nat.le_of_ble_eq_true rfl, Nat.le_of_ble_eq_true rfl⟩, rfl, rfl⟩, xw_402, xw_404, xw_3, rfl, rfl, vA_halfDaysOfHoliday, Or.inl ⟨rfl, uA_halfDaysOfHoliday, cA_halfDaysOfHoliday l⟩⟩, List.forall_mem_cons.mpr ⟨Or.inr ⟨xy_P_daysThere, xb_P_daysThere, 4, (some .int), xr_ 1, 2, 2, 2, [none, some 8, some 9, some 10, some 11, some 12, some 13, some 14], xk_T2, 8, rfl, rfl, ⟨xe_P_daysThere, xw_39, ⟨by decide, by decide, by decide +kernel⟩, ⟨Nat.le_of_ble_eq_true rfl, Nat.le_of_ble_eq_true rfl⟩, rfl, rfl⟩, xw_428, xw_429, xw_430, rfl, rfl, vP_daysThere, Or.inl ⟨rfl, uP_daysThere, cP_daysThere l⟩⟩, List.forall_mem_cons.mpr ⟨Or.inl ⟨xy_A_partsOfHalfDay, xb_A_partsOfHalfDay, 1, (some .int), xr_ 0, rfl, ⟨xe_A_partsOfHalfDay, xw_37, ⟨by decide, by decide, by decide +kernel⟩, ⟨Nat.le_of_ble_eq_true rfl, Nat.le_of_ble_eq_true rfl⟩, rfl, rfl⟩, xw_439, Or.inl xw_438, Or.inl ⟨rfl, uA_partsOfHalfDay, cA_partsOfHalfDay l⟩⟩, fun _ h => absurd h List.not_mem_nil⟩⟩⟩) (n, C) h
set_option maxRecDepth 20000 in
set_option maxHeartbeats 2000000 in
theorem cA_partsOfYear (l : Launch) : xm_Pu l xy_A_partsOfYear (Cond.code xy_A_partsOfYear xb_A_partsOfYear 7 (some .int) :: xt_T) (xr_ 4) xk_cl xk_ns xk_tA pA_partsOfYear fA_partsOfYear := by
  refine xm_mk_pu (rt := .int) (fl := xf_A) (ct := tA_partsOfYear) (cn := []) (cj := []) (plainFor_of_name (by decide)) xs_A xd_A_partsOfYear rfl (Or.inr rfl) (lA_partsOfYear l) (fun _ _ _ _ _ _ _ _ => False) ?_ ?_ ?_ (fun _ _ _ _ _ _ _ _ _ h => h.elim) ?_
  · rintro as M ⟨u, d, p, y, x, rfl, ⟨hp1, hp2⟩⟩; exact Nat.le_of_ble_eq_true rfl
  · rintro as M ⟨u, d, p, y, x, rfl, ⟨hp1, hp2⟩⟩; simp [fA_partsOfYear]
  · rintro as M v ⟨u, d, p, y, x, rfl, ⟨hp1, hp2⟩⟩ h; first | rfl | (simp [fA_partsOfYear] at h)
  · rintro as M ⟨u, d, p, y, x, rfl, ⟨hp1, hp2⟩⟩
    refine ⟨400, (And.intro rfl (And.intro (Nat.le_of_ble_eq_true rfl) (And.intro (Nat.le_of_ble_eq_true rfl) (And.intro ?g1_c_4 (And.intro (Nat.le_of_ble_eq_true rfl) (And.intro rfl (And.intro rfl (And.intro (Nat.le_of_ble_eq_true rfl) (And.intro (Nat.le_of_ble_eq_true rfl) (And.intro ?g2_c_22 (And.intro rfl (And.intro (Nat.le_of_ble_eq_true rfl) (And.intro (Nat.le_of_ble_eq_true rfl) (And.intro ?g3_c_27 (And.intro ?g4_w_34 ?g5_r_34)))))))))))))))⟩
    case g1_c_4 =>
      exact ⟨_, _, rfl, hp2⟩
    case g2_c_22 =>
      exact ⟨_, _, rfl, hp1⟩
    case g3_c_27 =>
      exact ⟨_, rfl⟩
    case g4_w_34 =>
      first | rfl | exact xi_nb
    case g5_r_34 =>
      exact ⟨rfl, rfl⟩
def pA_partsCarried (as : List Value) (M : xm_M) : Prop := ∃ d z : Int32, as = [.ref 0, .int d, .int z]
noncomputable def fA_partsCarried (as : List Value) (M : xm_M) : Option Value × xm_M := match as with
  | [_, .int d, .int z] => (some (.int (xd_pc (M 0 6) d z)), M)
  | _ => (none, M)
noncomputable abbrev sA_partsCarried : xm_C := (0, 3, 0, pA_partsCarried, fA_partsCarried)
theorem uA_partsCarried : ∀ as M, (fA_partsCarried as M).2 = M := by
  intro as M
  unfold fA_partsCarried
  split <;> rfl
theorem vA_partsCarried : ∀ as M, pA_partsCarried as M → ∃ as1, as = .ref 0 :: as1 := by
  rintro as M ⟨d, z, rfl⟩
  exact ⟨_, rfl⟩
noncomputable def tA_partsCarried : List (Nat × xm_C) := [(247, sA_partsOfDay), (328, sJ_min), (333, sJ_max)]
theorem lA_partsCarried (l : Launch) : ∀ n C, (n, C) ∈ tA_partsCarried → xm_lkS l "AbsenceRows" xt_T xk_ns (xr_ 1) xk_cl xk_tA n C ∨ xm_lkV l "AbsenceRows" xt_T xk_ns (xr_ 1) xk_cl xk_tA n C := fun n C h => (show ∀ q ∈ tA_partsCarried, xm_lkS l "AbsenceRows" xt_T xk_ns (xr_ 1) xk_cl xk_tA q.1 q.2 ∨ xm_lkV l "AbsenceRows" xt_T xk_ns (xr_ 1) xk_cl xk_tA q.1 q.2 from List.forall_mem_cons.mpr ⟨Or.inl ⟨xy_A_partsOfDay, xb_A_partsOfDay, 1, (some .int), xr_ 0, rfl, ⟨xe_A_partsOfDay, xw_37, ⟨by decide, by decide, by decide +kernel⟩, ⟨Nat.le_of_ble_eq_true rfl, Nat.le_of_ble_eq_true rfl⟩, rfl, rfl⟩, xw_446, Or.inl xw_445, Or.inl ⟨rfl, uA_partsOfDay, cA_partsOfDay l⟩⟩, List.forall_mem_cons.mpr ⟨Or.inl ⟨xy_J_min, xb_J_min, 2, (some .int), xr_ 0, rfl, ⟨xe_J_min, xw_51, ⟨by decide, by decide, by decide +kernel⟩, ⟨Nat.le_of_ble_eq_true rfl, Nat.le_of_ble_eq_true rfl⟩, rfl, rfl⟩, xw_433, Or.inl xw_448, Or.inl ⟨rfl, uJ_min, cJ_min l⟩⟩, List.forall_mem_cons.mpr ⟨Or.inl ⟨xy_J_max, xb_J_max, 2, (some .int), xr_ 0, rfl, ⟨xe_J_max, xw_51, ⟨by decide, by decide, by decide +kernel⟩, ⟨Nat.le_of_ble_eq_true rfl, Nat.le_of_ble_eq_true rfl⟩, rfl, rfl⟩, xw_436, Or.inl xw_449, Or.inl ⟨rfl, uJ_max, cJ_max l⟩⟩, fun _ h => absurd h List.not_mem_nil⟩⟩⟩) (n, C) h
set_option maxRecDepth 20000 in
set_option maxHeartbeats 2000000 in
theorem cA_partsCarried (l : Launch) : xm_Pu l xy_A_partsCarried (Cond.code xy_A_partsCarried xb_A_partsCarried 3 (some .int) :: xt_T) (xr_ 1) xk_cl xk_ns xk_tA pA_partsCarried fA_partsCarried := by
  refine xm_mk_pu (rt := .int) (fl := xf_A) (ct := tA_partsCarried) (cn := []) (cj := []) (plainFor_of_name (by decide)) xs_A xd_A_partsCarried rfl (Or.inr rfl) (lA_partsCarried l) (fun _ _ _ _ _ _ _ _ => False) ?_ ?_ ?_ (fun _ _ _ _ _ _ _ _ _ h => h.elim) ?_
  · rintro as M ⟨d, z, rfl⟩; exact Nat.le_of_ble_eq_true rfl
  · rintro as M ⟨d, z, rfl⟩; simp [fA_partsCarried]
  · rintro as M v ⟨d, z, rfl⟩ h; first | rfl | (simp [fA_partsCarried] at h)
  · rintro as M ⟨d, z, rfl⟩
    refine ⟨400, (And.intro rfl (And.intro rfl (And.intro (Nat.le_of_ble_eq_true rfl) (And.intro (Nat.le_of_ble_eq_true rfl) (And.intro ?g1_c_7 (And.intro rfl (And.intro (Nat.le_of_ble_eq_true rfl) (And.intro (Nat.le_of_ble_eq_true rfl) (And.intro ?g2_c_11 (And.intro rfl (And.intro (Nat.le_of_ble_eq_true rfl) (And.intro (Nat.le_of_ble_eq_true rfl) (And.intro ?g3_c_14 (And.intro ?g4_w_17 ?g5_r_17))))))))))))))⟩
    case g1_c_7 =>
      exact ⟨_, rfl⟩
    case g2_c_11 =>
      exact ⟨_, _, rfl⟩
    case g3_c_14 =>
      exact ⟨_, _, rfl⟩
    case g4_w_17 =>
      first | rfl | exact xi_nb
    case g5_r_17 =>
      exact ⟨rfl, rfl⟩
def pA_partsLeft (as : List Value) (M : xm_M) : Prop := ∃ p y : Int32, as = [.ref 0, .int p, .int y] ∧ vp_in p 20 ∧ xv_K M
noncomputable def fA_partsLeft (as : List Value) (M : xm_M) : Option Value × xm_M := match as with
  | [_, .int p, .int y] => (some (.int (xi_x (y = 0) (xd_py M (M 11 p.toNatClampNeg) (M 12 p.toNatClampNeg) p 0 0) (xd_py M (M 11 p.toNatClampNeg) (M 12 p.toNatClampNeg) p 1 0 + xd_pc (M 0 6) (M 12 p.toNatClampNeg) (xd_py M (M 11 p.toNatClampNeg) (M 12 p.toNatClampNeg) p 0 0)))), M)
  | _ => (none, M)
noncomputable abbrev sA_partsLeft : xm_C := (0, 3, 0, pA_partsLeft, fA_partsLeft)
theorem uA_partsLeft : ∀ as M, (fA_partsLeft as M).2 = M := by
  intro as M
  unfold fA_partsLeft
  split <;> rfl
theorem vA_partsLeft : ∀ as M, pA_partsLeft as M → ∃ as1, as = .ref 0 :: as1 := by
  rintro as M ⟨p, y, rfl, ⟨hp1, hp2⟩⟩
  exact ⟨_, rfl⟩
noncomputable def tA_partsLeft : List (Nat × xm_C) := [(336, sA_partsOfYear), (339, sA_partsCarried)]
theorem lA_partsLeft (l : Launch) : ∀ n C, (n, C) ∈ tA_partsLeft → xm_lkS l "AbsenceRows" xt_T xk_ns (xr_ 5) xk_cl xk_tA n C ∨ xm_lkV l "AbsenceRows" xt_T xk_ns (xr_ 5) xk_cl xk_tA n C := fun n C h => (show ∀ q ∈ tA_partsLeft, xm_lkS l "AbsenceRows" xt_T xk_ns (xr_ 5) xk_cl xk_tA q.1 q.2 ∨ xm_lkV l "AbsenceRows" xt_T xk_ns (xr_ 5) xk_cl xk_tA q.1 q.2 from List.forall_mem_cons.mpr ⟨Or.inr ⟨xy_A_partsOfYear, xb_A_partsOfYear, 7, (some .int), xr_ 4, 5, 0, 0, [some 1, some 2, some 3, some 4, some 5, some 6, none, none, none], xk_T0, 9, rfl, rfl, ⟨xe_A_partsOfYear, xw_37, ⟨by decide, by decide, by decide +kernel⟩, ⟨Nat.le_of_ble_eq_true rfl, Nat.le_of_ble_eq_true rfl⟩, rfl, rfl⟩, xw_398, xw_400, xw_2, rfl, rfl, vA_partsOfYear, Or.inl ⟨rfl, uA_partsOfYear, cA_partsOfYear l⟩⟩, List.forall_mem_cons.mpr ⟨Or.inr ⟨xy_A_partsCarried, xb_A_partsCarried, 3, (some .int), xr_ 1, 2, 0, 0, [some 1, some 2, some 3, some 4, some 5, some 6, none, none, none], xk_T0, 9, rfl, rfl, ⟨xe_A_partsCarried, xw_37, ⟨by decide, by decide, by decide +kernel⟩, ⟨Nat.le_of_ble_eq_true rfl, Nat.le_of_ble_eq_true rfl⟩, rfl, rfl⟩, xw_441, xw_443, xw_5, rfl, rfl, vA_partsCarried, Or.inl ⟨rfl, uA_partsCarried, cA_partsCarried l⟩⟩, fun _ h => absurd h List.not_mem_nil⟩⟩) (n, C) h
set_option maxRecDepth 20000 in
set_option maxHeartbeats 2000000 in
theorem cA_partsLeft (l : Launch) : xm_Pu l xy_A_partsLeft (Cond.code xy_A_partsLeft xb_A_partsLeft 6 (some .int) :: xt_T) (xr_ 5) xk_cl xk_ns xk_tA pA_partsLeft fA_partsLeft := by
  refine xm_mk_pu (rt := .int) (fl := xf_A) (ct := tA_partsLeft) (cn := []) (cj := []) (plainFor_of_name (by decide)) xs_A xd_A_partsLeft rfl (Or.inr rfl) (lA_partsLeft l) (fun _ _ _ _ _ _ _ _ => False) ?_ ?_ ?_ (fun _ _ _ _ _ _ _ _ _ h => h.elim) ?_
  · rintro as M ⟨p, y, rfl, ⟨hp1, hp2⟩⟩; exact Nat.le_of_ble_eq_true rfl
  · rintro as M ⟨p, y, rfl, ⟨hp1, hp2⟩⟩; simp [fA_partsLeft]
  · rintro as M v ⟨p, y, rfl, ⟨hp1, hp2⟩⟩ h; first | rfl | (simp [fA_partsLeft] at h)
  · rintro as M ⟨p, y, rfl, ⟨hp1, hp2⟩⟩
    refine ⟨400, (And.intro rfl (And.intro rfl (And.intro rfl (And.intro ?g1_i_8 (And.intro (Nat.le_of_ble_eq_true rfl) (And.intro rfl (And.intro rfl (And.intro rfl (And.intro ?g2_i_18 (And.intro (Nat.le_of_ble_eq_true rfl) (And.intro rfl (And.intro (Nat.le_of_ble_eq_true rfl) (And.intro (Nat.le_of_ble_eq_true rfl) (And.intro ?g3_c_28 (And.intro (Nat.le_of_ble_eq_true rfl) (And.intro (by decide) (And.intro (fun h34 => (And.intro rfl (And.intro (Nat.le_of_ble_eq_true rfl) (And.intro (Nat.le_of_ble_eq_true rfl) (And.intro ?g4_c_47 (And.intro rfl (And.intro (Nat.le_of_ble_eq_true rfl) (And.intro (Nat.le_of_ble_eq_true rfl) (And.intro ?g5_c_55 (And.intro ?g6_w_59 ?g7_r_59)))))))))) (fun h34 => (And.intro ?g8_w_39 ?g9_r_39)))))))))))))))))))⟩
    case g1_i_8 =>
      exact hp1
    case g2_i_18 =>
      exact hp1
    case g3_c_28 =>
      exact ⟨_, _, _, _, _, rfl, hp1, hp2⟩
    case g4_c_47 =>
      exact ⟨_, _, _, _, _, rfl, hp1, hp2⟩
    case g5_c_55 =>
      exact ⟨_, _, rfl⟩
    case g6_w_59 =>
      first | rfl | exact xi_nb
    case g7_r_59 =>
      exact ⟨xl_some (xi_xf h34).symm, rfl⟩
    case g8_w_39 =>
      first | rfl | exact xi_nb
    case g9_r_39 =>
      exact ⟨xl_some (xi_xt h34).symm, rfl⟩
def pA_isEnough (as : List Value) (M : xm_M) : Prop := ∃ u d p a b : Int32, as = [.ref 0, .int u, .int d, .int p, .int a, .int b] ∧ vp_in p 20 ∧ xv_K M
noncomputable def fA_isEnough (as : List Value) (M : xm_M) : Option Value × xm_M := match as with
  | [_, .int u, .int d, .int p, .int a, .int b] => (some (.int (xi_b (xd_en M u d p a b))), M)
  | _ => (none, M)
noncomputable abbrev sA_isEnough : xm_C := (0, 6, 0, pA_isEnough, fA_isEnough)
theorem uA_isEnough : ∀ as M, (fA_isEnough as M).2 = M := by
  intro as M
  unfold fA_isEnough
  split <;> rfl
theorem vA_isEnough : ∀ as M, pA_isEnough as M → ∃ as1, as = .ref 0 :: as1 := by
  rintro as M ⟨u, d, p, a, b, rfl, ⟨hp1, hp2⟩⟩
  exact ⟨_, rfl⟩
noncomputable def tA_isEnough : List (Nat × xm_C) := [(336, sA_partsOfYear), (339, sA_partsCarried)]
theorem lA_isEnough (l : Launch) : ∀ n C, (n, C) ∈ tA_isEnough → xm_lkS l "AbsenceRows" xt_T xk_ns (xr_ 5) xk_cl xk_tA n C ∨ xm_lkV l "AbsenceRows" xt_T xk_ns (xr_ 5) xk_cl xk_tA n C := fun n C h => (show ∀ q ∈ tA_isEnough, xm_lkS l "AbsenceRows" xt_T xk_ns (xr_ 5) xk_cl xk_tA q.1 q.2 ∨ xm_lkV l "AbsenceRows" xt_T xk_ns (xr_ 5) xk_cl xk_tA q.1 q.2 from List.forall_mem_cons.mpr ⟨Or.inr ⟨xy_A_partsOfYear, xb_A_partsOfYear, 7, (some .int), xr_ 4, 5, 0, 0, [some 1, some 2, some 3, some 4, some 5, some 6, none, none, none], xk_T0, 9, rfl, rfl, ⟨xe_A_partsOfYear, xw_37, ⟨by decide, by decide, by decide +kernel⟩, ⟨Nat.le_of_ble_eq_true rfl, Nat.le_of_ble_eq_true rfl⟩, rfl, rfl⟩, xw_398, xw_400, xw_2, rfl, rfl, vA_partsOfYear, Or.inl ⟨rfl, uA_partsOfYear, cA_partsOfYear l⟩⟩, List.forall_mem_cons.mpr ⟨Or.inr ⟨xy_A_partsCarried, xb_A_partsCarried, 3, (some .int), xr_ 1, 2, 0, 0, [some 1, some 2, some 3, some 4, some 5, some 6, none, none, none], xk_T0, 9, rfl, rfl, ⟨xe_A_partsCarried, xw_37, ⟨by decide, by decide, by decide +kernel⟩, ⟨Nat.le_of_ble_eq_true rfl, Nat.le_of_ble_eq_true rfl⟩, rfl, rfl⟩, xw_441, xw_443, xw_5, rfl, rfl, vA_partsCarried, Or.inl ⟨rfl, uA_partsCarried, cA_partsCarried l⟩⟩, fun _ h => absurd h List.not_mem_nil⟩⟩) (n, C) h
set_option maxRecDepth 20000 in
set_option maxHeartbeats 2000000 in
theorem cA_isEnough (l : Launch) : xm_Pu l xy_A_isEnough (Cond.code xy_A_isEnough xb_A_isEnough 8 (some .boolean) :: xt_T) (xr_ 5) xk_cl xk_ns xk_tA pA_isEnough fA_isEnough := by
  refine xm_mk_pu (rt := .boolean) (fl := xf_A) (ct := tA_isEnough) (cn := []) (cj := []) (plainFor_of_name (by decide)) xs_A xd_A_isEnough rfl (Or.inr rfl) (lA_isEnough l) (fun _ _ _ _ _ _ _ _ => False) ?_ ?_ ?_ (fun _ _ _ _ _ _ _ _ _ h => h.elim) ?_
  · rintro as M ⟨u, d, p, a, b, rfl, ⟨hp1, hp2⟩⟩; exact Nat.le_of_ble_eq_true rfl
  · rintro as M ⟨u, d, p, a, b, rfl, ⟨hp1, hp2⟩⟩; simp [fA_isEnough]
  · rintro as M v ⟨u, d, p, a, b, rfl, ⟨hp1, hp2⟩⟩ h; first | rfl | (simp [fA_isEnough] at h)
  · rintro as M ⟨u, d, p, a, b, rfl, ⟨hp1, hp2⟩⟩
    refine ⟨400, (And.intro rfl (And.intro (Nat.le_of_ble_eq_true rfl) (And.intro (Nat.le_of_ble_eq_true rfl) (And.intro ?g1_c_7 (And.intro (Nat.le_of_ble_eq_true rfl) (And.intro rfl (And.intro (Nat.le_of_ble_eq_true rfl) (And.intro (Nat.le_of_ble_eq_true rfl) (And.intro ?g2_c_19 (And.intro (Nat.le_of_ble_eq_true rfl) (And.intro (by decide) (And.intro (fun h26 => (And.intro ?g3_w_47 ?g4_r_47)) (fun h26 => (And.intro rfl (And.intro (Nat.le_of_ble_eq_true rfl) (And.intro (Nat.le_of_ble_eq_true rfl) (And.intro ?g5_c_35 (And.intro (by decide) (And.intro (fun h39 => (And.intro ?g6_w_47 ?g7_r_47)) (fun h39 => (And.intro (by decide) (And.intro ?g8_w_47 ?g9_r_47))))))))))))))))))))))⟩
    case g1_c_7 =>
      exact ⟨_, _, _, _, _, rfl, hp1, hp2⟩
    case g2_c_19 =>
      exact ⟨_, _, _, _, _, rfl, hp1, hp2⟩
    case g3_w_47 =>
      first | rfl | exact xi_nb
    case g4_r_47 =>
      exact ⟨xl_some (xi_f (fun z => absurd h26 (Int32.not_lt.mpr z.1))).symm, rfl⟩
    case g5_c_35 =>
      exact ⟨_, _, rfl⟩
    case g6_w_47 =>
      first | rfl | exact xi_nb
    case g7_r_47 =>
      exact ⟨xl_some (xi_f (fun z => absurd h39 (Int32.not_lt.mpr z.2))).symm, rfl⟩
    case g8_w_47 =>
      first | rfl | exact xi_nb
    case g9_r_47 =>
      exact ⟨xl_some (xi_t ⟨Int32.not_lt.mp h26, Int32.not_lt.mp h39⟩).symm, rfl⟩
def pA_isEnoughFor (as : List Value) (M : xm_M) : Prop := ∃ p f t h : Int32, as = [.ref 0, .int p, .int f, .int t, .int h] ∧ vp_in p 20 ∧ xv_K M ∧ xv_span f t
noncomputable def fA_isEnoughFor (as : List Value) (M : xm_M) : Option Value × xm_M := match as with
  | [_, .int p, .int f, .int t, .int h] => (some (.int (xi_b (xd_en M (M 11 p.toNatClampNeg) (M 12 p.toNatClampNeg) p (xi_x (f / 365 = 0) (xd_hd (M 7) f t h) 0) (xd_hd (M 7) f t h - xi_x (f / 365 = 0) (xd_hd (M 7) f t h) 0)))), M)
  | _ => (none, M)
noncomputable abbrev sA_isEnoughFor : xm_C := (0, 5, 0, pA_isEnoughFor, fA_isEnoughFor)
theorem uA_isEnoughFor : ∀ as M, (fA_isEnoughFor as M).2 = M := by
  intro as M
  unfold fA_isEnoughFor
  split <;> rfl
theorem vA_isEnoughFor : ∀ as M, pA_isEnoughFor as M → ∃ as1, as = .ref 0 :: as1 := by
  rintro as M ⟨p, f, t, h, rfl, ⟨hp1, hp2, hp3⟩⟩
  exact ⟨_, rfl⟩
noncomputable def tA_isEnoughFor : List (Nat × xm_C) := [(342, sC_halfDays), (165, sA_yearOf), (98, sA_isEnough)]
theorem lA_isEnoughFor (l : Launch) : ∀ n C, (n, C) ∈ tA_isEnoughFor → xm_lkS l "AbsenceRows" xt_T xk_ns (xr_ 6) xk_cl xk_tA n C ∨ xm_lkV l "AbsenceRows" xt_T xk_ns (xr_ 6) xk_cl xk_tA n C := fun n C h => (show ∀ q ∈ tA_isEnoughFor, xm_lkS l "AbsenceRows" xt_T xk_ns (xr_ 6) xk_cl xk_tA q.1 q.2 ∨ xm_lkV l "AbsenceRows" xt_T xk_ns (xr_ 6) xk_cl xk_tA q.1 q.2 from List.forall_mem_cons.mpr ⟨Or.inr ⟨xy_C_halfDays, xb_C_halfDays, 6, (some .int), xr_ 1, 3, 1, 1, [some 7], xk_T1, 1, rfl, rfl, ⟨xe_C_halfDays, xw_38, ⟨by decide, by decide, by decide +kernel⟩, ⟨Nat.le_of_ble_eq_true rfl, Nat.le_of_ble_eq_true rfl⟩, rfl, rfl⟩, xw_417, xw_418, xw_419, rfl, rfl, vC_halfDays, Or.inl ⟨rfl, uC_halfDays, cC_halfDays l⟩⟩, List.forall_mem_cons.mpr ⟨Or.inl ⟨xy_A_yearOf, xb_A_yearOf, 1, (some .int), xr_ 0, rfl, ⟨xe_A_yearOf, xw_37, ⟨by decide, by decide, by decide +kernel⟩, ⟨Nat.le_of_ble_eq_true rfl, Nat.le_of_ble_eq_true rfl⟩, rfl, rfl⟩, xw_411, Or.inl xw_410, Or.inl ⟨rfl, uA_yearOf, cA_yearOf l⟩⟩, List.forall_mem_cons.mpr ⟨Or.inr ⟨xy_A_isEnough, xb_A_isEnough, 8, (some .boolean), xr_ 5, 5, 0, 0, [some 1, some 2, some 3, some 4, some 5, some 6, none, none, none], xk_T0, 9, rfl, rfl, ⟨xe_A_isEnough, xw_37, ⟨by decide, by decide, by decide +kernel⟩, ⟨Nat.le_of_ble_eq_true rfl, Nat.le_of_ble_eq_true rfl⟩, rfl, rfl⟩, xw_394, xw_396, xw_1, rfl, rfl, vA_isEnough, Or.inl ⟨rfl, uA_isEnough, cA_isEnough l⟩⟩, fun _ h => absurd h List.not_mem_nil⟩⟩⟩) (n, C) h
set_option maxRecDepth 20000 in
set_option maxHeartbeats 2000000 in
theorem cA_isEnoughFor (l : Launch) : xm_Pu l xy_A_isEnoughFor (Cond.code xy_A_isEnoughFor xb_A_isEnoughFor 7 (some .boolean) :: xt_T) (xr_ 6) xk_cl xk_ns xk_tA pA_isEnoughFor fA_isEnoughFor := by
  refine xm_mk_pu (rt := .boolean) (fl := xf_A) (ct := tA_isEnoughFor) (cn := []) (cj := []) (plainFor_of_name (by decide)) xs_A xd_A_isEnoughFor rfl (Or.inr rfl) (lA_isEnoughFor l) (fun _ _ _ _ _ _ _ _ => False) ?_ ?_ ?_ (fun _ _ _ _ _ _ _ _ _ h => h.elim) ?_
  · rintro as M ⟨p, f, t, h, rfl, ⟨hp1, hp2, hp3⟩⟩; exact Nat.le_of_ble_eq_true rfl
  · rintro as M ⟨p, f, t, h, rfl, ⟨hp1, hp2, hp3⟩⟩; simp [fA_isEnoughFor]
  · rintro as M v ⟨p, f, t, h, rfl, ⟨hp1, hp2, hp3⟩⟩ h; first | rfl | (simp [fA_isEnoughFor] at h)
  · rintro as M ⟨p, f, t, h, rfl, ⟨hp1, hp2, hp3⟩⟩
    refine ⟨400, (And.intro rfl (And.intro rfl (And.intro (Nat.le_of_ble_eq_true rfl) (And.intro (Nat.le_of_ble_eq_true rfl) (And.intro ?g1_c_8 (And.intro (Nat.le_of_ble_eq_true rfl) (And.intro rfl (And.intro (Nat.le_of_ble_eq_true rfl) (And.intro (Nat.le_of_ble_eq_true rfl) (And.intro ?g2_c_14 (And.intro (by decide) (And.intro (fun h17 => (And.intro (Nat.le_of_ble_eq_true rfl) (And.intro rfl (And.intro rfl (And.intro rfl (And.intro ?g3_i_37 (And.intro rfl (And.intro rfl (And.intro rfl (And.intro ?g4_i_46 (And.intro rfl (And.intro (Nat.le_of_ble_eq_true rfl) (And.intro (Nat.le_of_ble_eq_true rfl) (And.intro ?g5_c_55 (And.intro ?g6_w_58 ?g7_r_58))))))))))))))) (fun h17 => (And.intro (by decide) (And.intro (Nat.le_of_ble_eq_true rfl) (And.intro rfl (And.intro rfl (And.intro rfl (And.intro ?g8_i_37 (And.intro rfl (And.intro rfl (And.intro rfl (And.intro ?g9_i_46 (And.intro rfl (And.intro (Nat.le_of_ble_eq_true rfl) (And.intro (Nat.le_of_ble_eq_true rfl) (And.intro ?g10_c_55 (And.intro ?g11_w_58 ?g12_r_58))))))))))))))))))))))))))))⟩
    case g1_c_8 =>
      exact ⟨_, _, _, rfl, hp3⟩
    case g2_c_14 =>
      exact ⟨_, rfl⟩
    case g3_i_37 =>
      exact hp1
    case g4_i_46 =>
      exact hp1
    case g5_c_55 =>
      exact ⟨_, _, _, _, _, rfl, hp1, hp2⟩
    case g6_w_58 =>
      first | rfl | exact xi_nb
    case g7_r_58 =>
      refine ⟨?_, rfl⟩
      first | (show _ = some (Value.int (xi_b (xd_en M _ _ p _ _))); rw [xi_xt h17]; rfl) | (show _ = some (Value.int (xi_b (xd_en M _ _ p _ _))); rw [xi_xf h17]; rfl)
    case g8_i_37 =>
      exact hp1
    case g9_i_46 =>
      exact hp1
    case g10_c_55 =>
      exact ⟨_, _, _, _, _, rfl, hp1, hp2⟩
    case g11_w_58 =>
      first | rfl | exact xi_nb
    case g12_r_58 =>
      refine ⟨?_, rfl⟩
      first | (show _ = some (Value.int (xi_b (xd_en M _ _ p _ _))); rw [xi_xt h17]; rfl) | (show _ = some (Value.int (xi_b (xd_en M _ _ p _ _))); rw [xi_xf h17]; rfl)
end
section
/-! WHO IS THERE, WHO COMES, WHO IS NEXT: the class's own numbers -/
def xd_on (n : Int32) : Int32 := 1 <<< (n &&& 31)
def xd_us (x n : Int32) : Int32 := (x.toUInt32 >>> (n.toUInt32 &&& Int32.toUInt32 31)).toInt32
def xd_bc (x : Int32) : Int32 := (fun a : Int32 => (fun b : Int32 => (fun c : Int32 => (fun d : Int32 => (fun e : Int32 => e &&& 63) (d + xd_us d 16)) (c + xd_us c 8)) ((b + xd_us b 4) &&& 252645135)) ((a &&& 858993459) + (xd_us a 2 &&& 858993459))) (x - (xd_us x 1 &&& 1431655765))
noncomputable def xd_there (M : xm_M) (d : Int32) : Int32 := xq_o (fun i => xi_w (M 10 i ≤ d) (1 <<< (nI i &&& 31))) (M 2 0).toNatClampNeg
noncomputable def xd_abs (M : xm_M) (d : Int32) : Int32 := xq_o (fun i => xi_w (M 23 i = 2 ∧ M 20 i ≤ d ∧ d ≤ M 21 i ∧ ¬ ((d = M 20 i ∧ ¬ M 22 i &&& 1 = 0) ∨ (d = M 21 i ∧ ¬ M 22 i &&& 2 = 0))) (1 <<< (M 18 i &&& 31))) (M 4 0).toNatClampNeg
noncomputable def xd_come (M : xm_M) (w d : Int32) : Int32 := xq_o (fun i => xi_w (M 30 i = 1 ∧ M 28 i = w ∧ M 29 i = d) (1 <<< (M 31 i &&& 31))) (M 6 0).toNatClampNeg
noncomputable def xd_eng (M : xm_M) (d : Int32) : Int32 := xq_o (fun i => xi_w (M 29 i = d ∧ ¬ M 31 i = -1) (1 <<< (M 31 i &&& 31))) (M 6 0).toNatClampNeg
noncomputable def xd_aw (M : xm_M) (d : Int32) : Int32 := xd_there M d &&& (xd_abs M d ^^^ -1)
def xv_n (x : Int32) (N : Nat) : Prop := ∃ c, c ≤ N ∧ x = nI c
/-- the counts are within their arrays -/
def xv_C (M : xm_M) : Prop := xv_n (M 2 0) 20 ∧ xv_n (M 3 0) 6 ∧ xv_n (M 4 0) 80 ∧ xv_n (M 6 0) 60
noncomputable def xq_k (b : Nat → Int32) (s d : Int32) : Nat → Int32
  | 0 => s
  | n + 1 => xi_x (d < b n) (xq_k b s d n &&& (1 <<< (nI n &&& 31) ^^^ -1)) (xq_k b s d n)
theorem xq_k1 (b : Nat → Int32) (s d : Int32) (n : Nat) : xq_k b s d (n + 1) = xi_x (d < b n) (xq_k b s d n &&& (1 <<< (nI n &&& 31) ^^^ -1)) (xq_k b s d n) := rfl
noncomputable def xd_hs (M : xm_M) (p w d : Int32) : Prop := xq_k (fun n => M 14 (p * 8 + nI n).toNatClampNeg) (M 8 p.toNatClampNeg) d 8 &&& w = w
theorem xl_b {p : Int32} {i : Nat} (hp : vp_in p 20) (hi : i < 8) : vp_in (p * 8 + nI i) 160 := by
  obtain ⟨k, hk, rfl⟩ := vp_in_of hp (by decide)
  have e1 : nI k * 8 = nI (k * 8) := pk_mul k 8
  rw [e1, nI_add]
  exact vp_in_nI (by omega) (by decide)
/-- the first place of those below n that is such, or -1 -/
noncomputable def xq_f (P : Nat → Prop) : Nat → Int32
  | 0 => -1
  | n + 1 => xi_x (xq_f P n = -1) (xi_x (P n) (nI n) (-1)) (xq_f P n)
theorem xq_f_no {P : Nat → Prop} : ∀ {n : Nat}, (∀ k, k < n → ¬ P k) → xq_f P n = -1
  | 0, _ => rfl
  | n + 1, h => by
    have ih := xq_f_no (P := P) (n := n) (fun k hk => h k (by omega))
    show xi_x _ _ _ = -1
    rw [xi_xt ih, xi_xf (h n (by omega))]
theorem xq_ne {n : Nat} (h : n < 2 ^ 31) : ¬ nI n = -1 := by
  intro q
  have h1 := nI_toInt h
  rw [q] at h1
  have h2 : (-1 : Int32).toInt = -1 := by decide
  omega
theorem xq_f_is {P : Nat → Prop} {i : Nat} (hP : P i) (hno : ∀ k, k < i → ¬ P k) (hi : i < 2 ^ 31) : ∀ n, i < n → xq_f P n = nI i
  | 0, h => absurd h (Nat.not_lt_zero i)
  | n + 1, h => by
    show xi_x (xq_f P n = -1) _ _ = nI i
    rcases Nat.lt_or_ge i n with q | q
    · rw [xi_xf (by rw [xq_f_is hP hno hi n q]; exact xq_ne hi), xq_f_is hP hno hi n q]
    · obtain rfl : i = n := by omega
      rw [xi_xt (xq_f_no hno), xi_xt hP]
def xd_sh (M : xm_M) (p d : Int32) (i : Nat) : Prop := ¬ M 17 i &&& (1 <<< (p &&& 31)) = 0 ∧ xd_come M (nI i) d &&& (1 <<< (p &&& 31)) = 0 ∧ xd_bc (M 17 i &&& xd_aw M d &&& (1 <<< (p &&& 31) ^^^ -1) ||| xd_come M (nI i) d) < M 16 i
noncomputable def xd_cl (M : xm_M) (p d : Int32) : Int32 := xi_x (xd_aw M d &&& (1 <<< (p &&& 31)) = 0) (-1) (xq_f (xd_sh M p d) (M 3 0).toNatClampNeg)
def xd_dy (M : xm_M) (f t h p : Int32) (a k : Nat) : Prop := (nI (a + k) - nI (a + k) / 7 * 7 < 5 ∧ M 7 (nI (a + k)).toNatClampNeg = 0) ∧ ¬ ((nI (a + k) = f ∧ ¬ h &&& 1 = 0) ∨ (nI (a + k) = t ∧ ¬ h &&& 2 = 0)) ∧ ¬ xd_cl M p (nI (a + k)) = -1
noncomputable def xd_fd (M : xm_M) (f t h p : Int32) : Int32 := xi_x (xq_f (xd_dy M f t h p f.toNatClampNeg) (t.toNatClampNeg + 1 - f.toNatClampNeg) = -1) (-1) (f + xq_f (xd_dy M f t h p f.toNatClampNeg) (t.toNatClampNeg + 1 - f.toNatClampNeg))
def xd_gb (M : xm_M) (p b : Int32) : Prop := if M 9 p.toNatClampNeg = M 9 b.toNatClampNeg then M 13 p.toNatClampNeg < M 13 b.toNatClampNeg else M 9 b.toNatClampNeg < M 9 p.toNatClampNeg
noncomputable def xq_b (M : xm_M) (can w d : Int32) : Nat → Int32
  | 0 => -1
  | n + 1 => xi_x (¬ can &&& (1 <<< (nI n &&& 31)) = 0 ∧ xd_hs M (nI n) w d ∧ (xq_b M can w d n = -1 ∨ xd_gb M (nI n) (xq_b M can w d n))) (nI n) (xq_b M can w d n)
theorem xq_b1 (M : xm_M) (can w d : Int32) (n : Nat) : xq_b M can w d (n + 1) = xi_x (¬ can &&& (1 <<< (nI n &&& 31)) = 0 ∧ xd_hs M (nI n) w d ∧ (xq_b M can w d n = -1 ∨ xd_gb M (nI n) (xq_b M can w d n))) (nI n) (xq_b M can w d n) := rfl
theorem xq_b_in (M : xm_M) (can w d : Int32) : ∀ n, xq_b M can w d n = -1 ∨ ∃ m, m < n ∧ xq_b M can w d n = nI m
  | 0 => Or.inl rfl
  | n + 1 => by
    rw [xq_b1]
    by_cases h : (¬ can &&& (1 <<< (nI n &&& 31)) = 0 ∧ xd_hs M (nI n) w d ∧ (xq_b M can w d n = -1 ∨ xd_gb M (nI n) (xq_b M can w d n)))
    · rw [xi_xt h]; exact Or.inr ⟨n, by omega, rfl⟩
    · rw [xi_xf h]
      rcases xq_b_in M can w d n with q | ⟨m, q1, q2⟩
      · exact Or.inl q
      · exact Or.inr ⟨m, by omega, q2⟩
noncomputable def xd_can (M : xm_M) (w d k : Int32) : Int32 := xd_aw M d &&& (M 17 w.toNatClampNeg ^^^ -1) &&& (xd_eng M d ^^^ -1) &&& (M 32 k.toNatClampNeg ^^^ -1)
noncomputable def xd_nx (M : xm_M) (k : Int32) : Int32 := xq_b M (xd_can M (M 28 k.toNatClampNeg) (M 29 k.toNatClampNeg) k) (M 15 (M 28 k.toNatClampNeg).toNatClampNeg) (M 29 k.toNatClampNeg) (M 2 0).toNatClampNeg
def pI_bitCount (as : List Value) (M : xm_M) : Prop := ∃ x : Int32, as = [.int x]
noncomputable def fI_bitCount (as : List Value) (M : xm_M) : Option Value × xm_M := match as with
  | [.int x] => (some (.int (xd_bc x)), M)
  | _ => (none, M)
noncomputable abbrev sI_bitCount : xm_C := (1, 1, 0, pI_bitCount, fI_bitCount)
theorem uI_bitCount : ∀ as M, (fI_bitCount as M).2 = M := by
  intro as M
  unfold fI_bitCount
  split <;> rfl
noncomputable def tI_bitCount : List (Nat × xm_C) := []
theorem lI_bitCount (l : Launch) : ∀ n C, (n, C) ∈ tI_bitCount → xm_lkS l "java/lang/Integer" xt_T xk_ns (xr_ 0) xk_cl xk_tA n C ∨ xm_lkV l "java/lang/Integer" xt_T xk_ns (xr_ 0) xk_cl xk_tA n C := fun n C h => (show ∀ q ∈ tI_bitCount, xm_lkS l "java/lang/Integer" xt_T xk_ns (xr_ 0) xk_cl xk_tA q.1 q.2 ∨ xm_lkV l "java/lang/Integer" xt_T xk_ns (xr_ 0) xk_cl xk_tA q.1 q.2 from fun _ h => absurd h List.not_mem_nil) (n, C) h
set_option maxRecDepth 20000 in
set_option maxHeartbeats 2000000 in
theorem cI_bitCount (l : Launch) : xm_Pu l xy_I_bitCount (Cond.code xy_I_bitCount xb_I_bitCount 1 (some .int) :: xt_T) (xr_ 0) xk_cl xk_ns xk_tA pI_bitCount fI_bitCount := by
  refine xm_mk_pu (rt := .int) (fl := []) (ct := tI_bitCount) (cn := xc_I) (cj := []) (plainFor_of_name (by decide)) xs_I xd_I_bitCount rfl (Or.inr rfl) (lI_bitCount l) (fun _ _ _ _ _ _ _ _ => False) ?_ ?_ ?_ (fun _ _ _ _ _ _ _ _ _ h => h.elim) ?_
  · rintro as M ⟨x, rfl⟩; exact Nat.le_of_ble_eq_true rfl
  · rintro as M ⟨x, rfl⟩; simp [fI_bitCount]
  · rintro as M v ⟨x, rfl⟩ h; first | rfl | (simp [fI_bitCount] at h)
  · rintro as M ⟨x, rfl⟩
    refine ⟨400, (And.intro (Nat.le_of_ble_eq_true rfl) (And.intro (Nat.le_of_ble_eq_true rfl) (And.intro (Nat.le_of_ble_eq_true rfl) (And.intro (Nat.le_of_ble_eq_true rfl) (And.intro (Nat.le_of_ble_eq_true rfl) (And.intro ?g1_w_52 ?g2_r_52))))))⟩
    case g1_w_52 =>
      first | rfl | exact xi_nb
    case g2_r_52 =>
      exact ⟨rfl, rfl⟩
def pP_haveSkills (as : List Value) (M : xm_M) : Prop := ∃ p w d : Int32, as = [.ref 2, .int p, .int w, .int d] ∧ vp_in p 20
noncomputable def fP_haveSkills (as : List Value) (M : xm_M) : Option Value × xm_M := match as with
  | [_, .int p, .int w, .int d] => (some (.int (xi_b (xd_hs M p w d))), M)
  | _ => (none, M)
noncomputable abbrev sP_haveSkills : xm_C := (0, 4, 0, pP_haveSkills, fP_haveSkills)
theorem uP_haveSkills : ∀ as M, (fP_haveSkills as M).2 = M := by
  intro as M
  unfold fP_haveSkills
  split <;> rfl
theorem vP_haveSkills : ∀ as M, pP_haveSkills as M → ∃ as1, as = .ref 2 :: as1 := by
  rintro as M ⟨p, w, d, rfl, hpre⟩
  exact ⟨_, rfl⟩
noncomputable def tP_haveSkills : List (Nat × xm_C) := [(50, sA_only)]
theorem lP_haveSkills (l : Launch) : ∀ n C, (n, C) ∈ tP_haveSkills → xm_lkS l "AbsenceRows$Persons" xt_T xk_ns (xr_ 1) xk_cl xk_tA n C ∨ xm_lkV l "AbsenceRows$Persons" xt_T xk_ns (xr_ 1) xk_cl xk_tA n C := fun n C h => (show ∀ q ∈ tP_haveSkills, xm_lkS l "AbsenceRows$Persons" xt_T xk_ns (xr_ 1) xk_cl xk_tA q.1 q.2 ∨ xm_lkV l "AbsenceRows$Persons" xt_T xk_ns (xr_ 1) xk_cl xk_tA q.1 q.2 from List.forall_mem_cons.mpr ⟨Or.inl ⟨xy_A_only, xb_A_only, 1, (some .int), xr_ 0, rfl, ⟨xe_A_only, xw_37, ⟨by decide, by decide, by decide +kernel⟩, ⟨Nat.le_of_ble_eq_true rfl, Nat.le_of_ble_eq_true rfl⟩, rfl, rfl⟩, xw_529, Or.inr ⟨"AbsenceRows", xn_10⟩, Or.inl ⟨rfl, uA_only, cA_only l⟩⟩, fun _ h => absurd h List.not_mem_nil⟩) (n, C) h
set_option maxRecDepth 20000 in
set_option maxHeartbeats 2000000 in
theorem cP_haveSkills (l : Launch) : xm_Pu l xy_P_haveSkills (Cond.code xy_P_haveSkills xb_P_haveSkills 6 (some .boolean) :: xt_T) (xr_ 1) xk_cl xk_ns xk_tA pP_haveSkills fP_haveSkills := by
  refine xm_mk_pu (rt := .boolean) (fl := xf_P) (ct := tP_haveSkills) (cn := []) (cj := []) (plainFor_of_name (by decide)) xs_P xd_P_haveSkills rfl (Or.inr rfl) (lP_haveSkills l) (fun as M j pc ls st M2 cl => match as with | [_, .int p, .int w, .int d] => (∃ i : Nat, i ≤ 8 ∧ j = 8 - i ∧ pc = 11 ∧ ls = [(0, .ref 2), (1, .int p), (2, .int w), (3, .int d), (4, .int (xq_k (fun n => M 14 (p * 8 + nI n).toNatClampNeg) (M 8 p.toNatClampNeg) d i)), (5, .int (nI i))] ∧ st = [] ∧ M2 = M ∧ cl = 0) | _ => False) ?_ ?_ ?_ ?_ ?_
  · rintro as M ⟨p, w, d, rfl, hpre⟩; exact Nat.le_of_ble_eq_true rfl
  · rintro as M ⟨p, w, d, rfl, hpre⟩; simp [fP_haveSkills]
  · rintro as M v ⟨p, w, d, rfl, hpre⟩ h; first | rfl | (simp [fP_haveSkills] at h)
  · rintro as M ⟨p, w, d, rfl, hpre⟩ j pc ls st M2 cl ⟨i, hi, hj, rfl, rfl, rfl, rfl, rfl⟩
    refine ⟨400, (And.intro (by decide) (And.intro (fun h15 => (And.intro (by decide) (And.intro (fun h57 => (And.intro ?g1001_w_65 ?g1002_r_65)) (fun h57 => (And.intro (by decide) (And.intro ?g1003_w_65 ?g1004_r_65)))))) (fun h15 => (And.intro rfl (And.intro rfl (And.intro ?g1005_i_30 (And.intro (by decide) (And.intro (fun h31 => (And.intro (Nat.le_of_ble_eq_true rfl) (And.intro (by decide) ?g1006_k_11))) (fun h31 => (And.intro rfl (And.intro (Nat.le_of_ble_eq_true rfl) (And.intro (Nat.le_of_ble_eq_true rfl) (And.intro ?g1007_c_38 (And.intro (Nat.le_of_ble_eq_true rfl) (And.intro (Nat.le_of_ble_eq_true rfl) (And.intro (by decide) ?g1008_k_11))))))))))))))))⟩
    case g1001_w_65 =>
      first | rfl | exact xi_nb
    case g1002_r_65 =>
      obtain rfl := xl_end (x := Int32.ofInt 8) (c := 8) rfl (by decide) hi h15
      refine ⟨xl_some ?_, rfl⟩
      first | exact (xi_t h57).symm | exact (xi_f h57).symm
    case g1003_w_65 =>
      first | rfl | exact xi_nb
    case g1004_r_65 =>
      obtain rfl := xl_end (x := Int32.ofInt 8) (c := 8) rfl (by decide) hi h15
      refine ⟨xl_some ?_, rfl⟩
      first | exact (xi_t h57).symm | exact (xi_f h57).symm
    case g1005_i_30 =>
      exact xl_b hpre (xl_lt (x := Int32.ofInt 8) (c := 8) rfl hi h15)
    case g1006_k_11 =>
      have hlt := xl_lt (x := Int32.ofInt 8) (c := 8) rfl hi h15
      refine ⟨8 - (i + 1), by omega, i + 1, by omega, rfl, rfl, ?_, rfl, rfl, rfl⟩
      rw [nI_succ, xq_k1]
      first | (rw [xi_xt (c := d < M2 14 (p * 8 + nI i).toNatClampNeg) (Int32.not_le.mp h31)]; rfl) | (rw [xi_xf (c := d < M2 14 (p * 8 + nI i).toNatClampNeg) (Int32.not_lt.mpr h31)]; rfl)
    case g1007_c_38 =>
      exact ⟨_, rfl⟩
    case g1008_k_11 =>
      have hlt := xl_lt (x := Int32.ofInt 8) (c := 8) rfl hi h15
      refine ⟨8 - (i + 1), by omega, i + 1, by omega, rfl, rfl, ?_, rfl, rfl, rfl⟩
      rw [nI_succ, xq_k1]
      first | (rw [xi_xt (c := d < M2 14 (p * 8 + nI i).toNatClampNeg) (Int32.not_le.mp h31)]; rfl) | (rw [xi_xf (c := d < M2 14 (p * 8 + nI i).toNatClampNeg) (Int32.not_lt.mpr h31)]; rfl)
  · rintro as M ⟨p, w, d, rfl, hpre⟩
    refine ⟨400, (And.intro rfl (And.intro rfl (And.intro ?g1_i_5 (And.intro (Nat.le_of_ble_eq_true rfl) (And.intro (Nat.le_of_ble_eq_true rfl) ?g2_k_11)))))⟩
    case g1_i_5 =>
      exact hpre
    case g2_k_11 =>
      exact ⟨8 - 0, 0, Nat.zero_le _, rfl, rfl, rfl, rfl, rfl, rfl⟩
def pA_atWorkOn (as : List Value) (M : xm_M) : Prop := ∃ d : Int32, as = [.ref 0, .int d] ∧ xv_C M
noncomputable def fA_atWorkOn (as : List Value) (M : xm_M) : Option Value × xm_M := match as with
  | [_, .int d] => (some (.int (xd_aw M d)), M)
  | _ => (none, M)
noncomputable abbrev sA_atWorkOn : xm_C := (0, 2, 0, pA_atWorkOn, fA_atWorkOn)
theorem uA_atWorkOn : ∀ as M, (fA_atWorkOn as M).2 = M := by
  intro as M
  unfold fA_atWorkOn
  split <;> rfl
theorem vA_atWorkOn : ∀ as M, pA_atWorkOn as M → ∃ as1, as = .ref 0 :: as1 := by
  rintro as M ⟨d, rfl, ⟨hP, hW, hK, hL⟩⟩
  exact ⟨_, rfl⟩
noncomputable def tA_atWorkOn : List (Nat × xm_C) := [(360, sP_thereOn), (253, sK_absentOn)]
theorem lA_atWorkOn (l : Launch) : ∀ n C, (n, C) ∈ tA_atWorkOn → xm_lkS l "AbsenceRows" xt_T xk_ns (xr_ 2) xk_cl xk_tA n C ∨ xm_lkV l "AbsenceRows" xt_T xk_ns (xr_ 2) xk_cl xk_tA n C := fun n C h => (show ∀ q ∈ tA_atWorkOn, xm_lkS l "AbsenceRows" xt_T xk_ns (xr_ 2) xk_cl xk_tA q.1 q.2 ∨ xm_lkV l "AbsenceRows" xt_T xk_ns (xr_ 2) xk_cl xk_tA q.1 q.2 from List.forall_mem_cons.mpr ⟨Or.inr ⟨xy_P_thereOn, xb_P_thereOn, 4, (some .int), xr_ 1, 1, 2, 2, [none, some 8, some 9, some 10, some 11, some 12, some 13, some 14], xk_T2, 8, rfl, rfl, ⟨xe_P_thereOn, xw_39, ⟨by decide, by decide, by decide +kernel⟩, ⟨Nat.le_of_ble_eq_true rfl, Nat.le_of_ble_eq_true rfl⟩, rfl, rfl⟩, xw_609, xw_610, xw_611, rfl, rfl, vP_thereOn, Or.inl ⟨rfl, uP_thereOn, cP_thereOn l⟩⟩, List.forall_mem_cons.mpr ⟨Or.inr ⟨xy_K_absentOn, xb_K_absentOn, 4, (some .int), xr_ 1, 1, 4, 4, [none, some 18, some 19, some 20, some 21, some 22, some 23, some 24], xk_T4, 8, rfl, rfl, ⟨xe_K_absentOn, xw_41, ⟨by decide, by decide, by decide +kernel⟩, ⟨Nat.le_of_ble_eq_true rfl, Nat.le_of_ble_eq_true rfl⟩, rfl, rfl⟩, xw_614, xw_615, xw_616, rfl, rfl, vK_absentOn, Or.inl ⟨rfl, uK_absentOn, cK_absentOn l⟩⟩, fun _ h => absurd h List.not_mem_nil⟩⟩) (n, C) h
set_option maxRecDepth 20000 in
set_option maxHeartbeats 2000000 in
theorem cA_atWorkOn (l : Launch) : xm_Pu l xy_A_atWorkOn (Cond.code xy_A_atWorkOn xb_A_atWorkOn 2 (some .int) :: xt_T) (xr_ 2) xk_cl xk_ns xk_tA pA_atWorkOn fA_atWorkOn := by
  refine xm_mk_pu (rt := .int) (fl := xf_A) (ct := tA_atWorkOn) (cn := []) (cj := []) (plainFor_of_name (by decide)) xs_A xd_A_atWorkOn rfl (Or.inr rfl) (lA_atWorkOn l) (fun _ _ _ _ _ _ _ _ => False) ?_ ?_ ?_ (fun _ _ _ _ _ _ _ _ _ h => h.elim) ?_
  · rintro as M ⟨d, rfl, ⟨hP, hW, hK, hL⟩⟩; exact Nat.le_of_ble_eq_true rfl
  · rintro as M ⟨d, rfl, ⟨hP, hW, hK, hL⟩⟩; simp [fA_atWorkOn]
  · rintro as M v ⟨d, rfl, ⟨hP, hW, hK, hL⟩⟩ h; first | rfl | (simp [fA_atWorkOn] at h)
  · rintro as M ⟨d, rfl, ⟨hP, hW, hK, hL⟩⟩
    refine ⟨400, (And.intro rfl (And.intro rfl (And.intro (Nat.le_of_ble_eq_true rfl) (And.intro (Nat.le_of_ble_eq_true rfl) (And.intro ?g1_c_5 (And.intro rfl (And.intro rfl (And.intro (Nat.le_of_ble_eq_true rfl) (And.intro (Nat.le_of_ble_eq_true rfl) (And.intro ?g2_c_13 (And.intro ?g3_w_19 ?g4_r_19)))))))))))⟩
    case g1_c_5 =>
      exact ⟨_, rfl, hP⟩
    case g2_c_13 =>
      exact ⟨_, rfl, hK⟩
    case g3_w_19 =>
      first | rfl | exact xi_nb
    case g4_r_19 =>
      exact ⟨rfl, rfl⟩
def pA_crewLeftShort (as : List Value) (M : xm_M) : Prop := ∃ p d : Int32, as = [.ref 0, .int p, .int d] ∧ xv_C M
noncomputable def fA_crewLeftShort (as : List Value) (M : xm_M) : Option Value × xm_M := match as with
  | [_, .int p, .int d] => (some (.int (xd_cl M p d)), M)
  | _ => (none, M)
noncomputable abbrev sA_crewLeftShort : xm_C := (0, 3, 0, pA_crewLeftShort, fA_crewLeftShort)
theorem uA_crewLeftShort : ∀ as M, (fA_crewLeftShort as M).2 = M := by
  intro as M
  unfold fA_crewLeftShort
  split <;> rfl
theorem vA_crewLeftShort : ∀ as M, pA_crewLeftShort as M → ∃ as1, as = .ref 0 :: as1 := by
  rintro as M ⟨p, d, rfl, ⟨hP, hW, hK, hL⟩⟩
  exact ⟨_, rfl⟩
noncomputable def tA_crewLeftShort : List (Nat × xm_C) := [(258, sA_atWorkOn), (149, sA_holds), (261, sL_comeTo), (154, sA_only), (158, sI_bitCount)]
theorem lA_crewLeftShort (l : Launch) : ∀ n C, (n, C) ∈ tA_crewLeftShort → xm_lkS l "AbsenceRows" xt_T xk_ns (xr_ 3) xk_cl xk_tA n C ∨ xm_lkV l "AbsenceRows" xt_T xk_ns (xr_ 3) xk_cl xk_tA n C := fun n C h => (show ∀ q ∈ tA_crewLeftShort, xm_lkS l "AbsenceRows" xt_T xk_ns (xr_ 3) xk_cl xk_tA q.1 q.2 ∨ xm_lkV l "AbsenceRows" xt_T xk_ns (xr_ 3) xk_cl xk_tA q.1 q.2 from List.forall_mem_cons.mpr ⟨Or.inr ⟨xy_A_atWorkOn, xb_A_atWorkOn, 2, (some .int), xr_ 2, 1, 0, 0, [some 1, some 2, some 3, some 4, some 5, some 6, none, none, none], xk_T0, 9, rfl, rfl, ⟨xe_A_atWorkOn, xw_37, ⟨by decide, by decide, by decide +kernel⟩, ⟨Nat.le_of_ble_eq_true rfl, Nat.le_of_ble_eq_true rfl⟩, rfl, rfl⟩, xw_605, xw_607, xw_10, rfl, rfl, vA_atWorkOn, Or.inl ⟨rfl, uA_atWorkOn, cA_atWorkOn l⟩⟩, List.forall_mem_cons.mpr ⟨Or.inl ⟨xy_A_holds, xb_A_holds, 2, (some .boolean), xr_ 1, rfl, ⟨xe_A_holds, xw_37, ⟨by decide, by decide, by decide +kernel⟩, ⟨Nat.le_of_ble_eq_true rfl, Nat.le_of_ble_eq_true rfl⟩, rfl, rfl⟩, xw_526, Or.inl xw_525, Or.inl ⟨rfl, uA_holds, cA_holds l⟩⟩, List.forall_mem_cons.mpr ⟨Or.inr ⟨xy_L_comeTo, xb_L_comeTo, 5, (some .int), xr_ 1, 2, 6, 6, [none, some 28, some 29, some 30, some 31, some 32, some 33], xk_T6, 7, rfl, rfl, ⟨xe_L_comeTo, xw_43, ⟨by decide, by decide, by decide +kernel⟩, ⟨Nat.le_of_ble_eq_true rfl, Nat.le_of_ble_eq_true rfl⟩, rfl, rfl⟩, xw_620, xw_621, xw_622, rfl, rfl, vL_comeTo, Or.inl ⟨rfl, uL_comeTo, cL_comeTo l⟩⟩, List.forall_mem_cons.mpr ⟨Or.inl ⟨xy_A_only, xb_A_only, 1, (some .int), xr_ 0, rfl, ⟨xe_A_only, xw_37, ⟨by decide, by decide, by decide +kernel⟩, ⟨Nat.le_of_ble_eq_true rfl, Nat.le_of_ble_eq_true rfl⟩, rfl, rfl⟩, xw_529, Or.inl xw_528, Or.inl ⟨rfl, uA_only, cA_only l⟩⟩, List.forall_mem_cons.mpr ⟨Or.inl ⟨xy_I_bitCount, xb_I_bitCount, 1, (some .int), xr_ 0, rfl, ⟨xe_I_bitCount, xw_53, ⟨by decide, by decide, by decide +kernel⟩, ⟨Nat.le_of_ble_eq_true rfl, Nat.le_of_ble_eq_true rfl⟩, rfl, rfl⟩, xw_533, Or.inl xw_532, Or.inl ⟨rfl, uI_bitCount, cI_bitCount l⟩⟩, fun _ h => absurd h List.not_mem_nil⟩⟩⟩⟩⟩) (n, C) h
set_option maxRecDepth 20000 in
set_option maxHeartbeats 2000000 in
theorem cA_crewLeftShort (l : Launch) : xm_Pu l xy_A_crewLeftShort (Cond.code xy_A_crewLeftShort xb_A_crewLeftShort 7 (some .int) :: xt_T) (xr_ 3) xk_cl xk_ns xk_tA pA_crewLeftShort fA_crewLeftShort := by
  refine xm_mk_pu (rt := .int) (fl := xf_A) (ct := tA_crewLeftShort) (cn := []) (cj := []) (plainFor_of_name (by decide)) xs_A xd_A_crewLeftShort rfl (Or.inr rfl) (lA_crewLeftShort l) (fun as M j pc ls st M2 cl => match as with | [_, .int p, .int d] => (∃ i c : Nat, M 3 0 = nI c ∧ c ≤ 6 ∧ i ≤ c ∧ j = c - i ∧ ¬ xd_aw M d &&& (1 <<< (p &&& 31)) = 0 ∧ (∀ k, k < i → ¬ xd_sh M p d k) ∧ pc = 19 ∧ ls = [(0, .ref 0), (1, .int p), (2, .int d), (3, .int (xd_aw M d)), (4, .int (nI i))] ∧ st = [] ∧ M2 = M ∧ cl = 0) | _ => False) ?_ ?_ ?_ ?_ ?_
  · rintro as M ⟨p, d, rfl, ⟨hP, hW, hK, hL⟩⟩; exact Nat.le_of_ble_eq_true rfl
  · rintro as M ⟨p, d, rfl, ⟨hP, hW, hK, hL⟩⟩; simp [fA_crewLeftShort]
  · rintro as M v ⟨p, d, rfl, ⟨hP, hW, hK, hL⟩⟩ h; first | rfl | (simp [fA_crewLeftShort] at h)
  · rintro as M ⟨p, d, rfl, ⟨hP, hW, hK, hL⟩⟩ j pc ls st M2 cl ⟨i, c, hc, hc20, hic, hj, hat, hno, rfl, rfl, rfl, rfl, rfl⟩
    refine ⟨400, (And.intro rfl (And.intro rfl (And.intro (by decide) (And.intro (fun h28 => (And.intro ?g1001_w_124 ?g1002_r_124)) (fun h28 => (And.intro rfl (And.intro rfl (And.intro rfl (And.intro ?g1003_i_40 (And.intro rfl (And.intro (Nat.le_of_ble_eq_true rfl) (And.intro (Nat.le_of_ble_eq_true rfl) (And.intro ?g1004_c_42 (And.intro (by decide) (And.intro (fun h45 => (And.intro rfl (And.intro rfl (And.intro (Nat.le_of_ble_eq_true rfl) (And.intro (Nat.le_of_ble_eq_true rfl) (And.intro ?g1005_c_58 (And.intro (Nat.le_of_ble_eq_true rfl) (And.intro rfl (And.intro rfl (And.intro rfl (And.intro ?g1006_i_72 (And.intro rfl (And.intro (Nat.le_of_ble_eq_true rfl) (And.intro (Nat.le_of_ble_eq_true rfl) (And.intro ?g1007_c_76 (And.intro (Nat.le_of_ble_eq_true rfl) (And.intro rfl (And.intro (Nat.le_of_ble_eq_true rfl) (And.intro (Nat.le_of_ble_eq_true rfl) (And.intro ?g1008_c_90 (And.intro (by decide) (And.intro (fun h93 => (And.intro (Nat.le_of_ble_eq_true rfl) (And.intro (by decide) ?g1009_k_19))) (fun h93 => (And.intro rfl (And.intro (Nat.le_of_ble_eq_true rfl) (And.intro (Nat.le_of_ble_eq_true rfl) (And.intro ?g1010_c_98 (And.intro rfl (And.intro rfl (And.intro rfl (And.intro ?g1011_i_110 (And.intro (by decide) (And.intro (fun h111 => (And.intro (Nat.le_of_ble_eq_true rfl) (And.intro (by decide) ?g1012_k_19))) (fun h111 => (And.intro ?g1013_w_116 ?g1014_r_116))))))))))))))))))))))))))))))))))) (fun h45 => (And.intro (by decide) (And.intro (Nat.le_of_ble_eq_true rfl) (And.intro (by decide) ?g1015_k_19)))))))))))))))))))⟩
    case g1001_w_124 =>
      first | rfl | exact xi_nb
    case g1002_r_124 =>
      obtain rfl := xl_end hc (by omega) hic (by assumption)
      refine ⟨xl_some ?_, rfl⟩
      unfold xd_cl
      rw [xi_xf hat, hc, nI_clamp (by omega)]
      exact (xq_f_no hno).symm
    case g1003_i_40 =>
      exact vp_in_nI (Nat.lt_of_lt_of_le (xl_lt hc hic h28) hc20) (by decide)
    case g1004_c_42 =>
      exact ⟨_, _, rfl⟩
    case g1005_c_58 =>
      exact ⟨_, _, rfl, hL⟩
    case g1006_i_72 =>
      exact vp_in_nI (Nat.lt_of_lt_of_le (xl_lt hc hic h28) hc20) (by decide)
    case g1007_c_76 =>
      exact ⟨_, rfl⟩
    case g1008_c_90 =>
      exact ⟨_, _, rfl⟩
    case g1009_k_19 =>
      have hlt := xl_lt hc hic h28
      have e1 : (nI i).toNatClampNeg = i := nI_clamp (by omega)
      refine ⟨c - (i + 1), by omega, i + 1, c, hc, hc20, by omega, rfl, hat, ?_, rfl, ?_, rfl, rfl, rfl⟩
      · intro k hk
        rcases Nat.lt_or_ge k i with q | q
        · exact hno k q
        · obtain rfl : k = i := by omega
          intro z
          obtain ⟨z1, z2, z3⟩ := z
          simp only [e1, xi_0, xi_n0, xd_come] at *
          grind [Int32.not_lt, Int32.not_le]
      · rw [nI_succ]; rfl
    case g1010_c_98 =>
      exact ⟨_, rfl⟩
    case g1011_i_110 =>
      exact vp_in_nI (Nat.lt_of_lt_of_le (xl_lt hc hic h28) hc20) (by decide)
    case g1012_k_19 =>
      have hlt := xl_lt hc hic h28
      have e1 : (nI i).toNatClampNeg = i := nI_clamp (by omega)
      refine ⟨c - (i + 1), by omega, i + 1, c, hc, hc20, by omega, rfl, hat, ?_, rfl, ?_, rfl, rfl, rfl⟩
      · intro k hk
        rcases Nat.lt_or_ge k i with q | q
        · exact hno k q
        · obtain rfl : k = i := by omega
          intro z
          obtain ⟨z1, z2, z3⟩ := z
          simp only [e1, xi_0, xi_n0, xd_come] at *
          grind [Int32.not_lt, Int32.not_le]
      · rw [nI_succ]; rfl
    case g1013_w_116 =>
      first | rfl | exact xi_nb
    case g1014_r_116 =>
      have hlt := xl_lt hc hic h28
      have e1 : (nI i).toNatClampNeg = i := nI_clamp (by omega)
      refine ⟨xl_some ?_, rfl⟩
      unfold xd_cl
      rw [xi_xf hat, hc, nI_clamp (by omega)]
      refine (xq_f_is ?_ hno (by omega) c hlt).symm
      simp only [e1, xi_0, xi_n0, Classical.not_not] at *
      exact ⟨h45, h93, Int32.not_le.mp h111⟩
    case g1015_k_19 =>
      have hlt := xl_lt hc hic h28
      have e1 : (nI i).toNatClampNeg = i := nI_clamp (by omega)
      refine ⟨c - (i + 1), by omega, i + 1, c, hc, hc20, by omega, rfl, hat, ?_, rfl, ?_, rfl, rfl, rfl⟩
      · intro k hk
        rcases Nat.lt_or_ge k i with q | q
        · exact hno k q
        · obtain rfl : k = i := by omega
          intro z
          obtain ⟨z1, z2, z3⟩ := z
          simp only [e1, xi_0, xi_n0, xd_come] at *
          grind [Int32.not_lt, Int32.not_le]
      · rw [nI_succ]; rfl
  · rintro as M ⟨p, d, rfl, ⟨hP, hW, hK, hL⟩⟩
    refine ⟨400, (And.intro rfl (And.intro (Nat.le_of_ble_eq_true rfl) (And.intro (Nat.le_of_ble_eq_true rfl) (And.intro ?g1_c_2 (And.intro (Nat.le_of_ble_eq_true rfl) (And.intro rfl (And.intro (Nat.le_of_ble_eq_true rfl) (And.intro (Nat.le_of_ble_eq_true rfl) (And.intro ?g2_c_8 (And.intro (by decide) (And.intro (fun h11 => (And.intro (Nat.le_of_ble_eq_true rfl) ?g3_k_19)) (fun h11 => (And.intro ?g4_w_15 ?g5_r_15)))))))))))))⟩
    case g1_c_2 =>
      exact ⟨_, rfl, hP, hW, hK, hL⟩
    case g2_c_8 =>
      exact ⟨_, _, rfl⟩
    case g3_k_19 =>
      obtain ⟨c0, h1, h2⟩ := hW
      exact ⟨c0 - 0, 0, c0, h2, h1, Nat.zero_le _, rfl, xi_n0.mp h11, fun k hk => absurd hk (Nat.not_lt_zero k), rfl, rfl, rfl, rfl, rfl⟩
    case g4_w_15 =>
      first | rfl | exact xi_nb
    case g5_r_15 =>
      refine ⟨xl_some ?_, rfl⟩
      unfold xd_cl
      rw [xi_xt (Classical.not_not.mp (xi_0.mp h11))]; rfl
def pA_firstDayLeftShort (as : List Value) (M : xm_M) : Prop := ∃ a : Int32, as = [.ref 0, .int a] ∧ vp_in a 80 ∧ xv_span (M 20 a.toNatClampNeg) (M 21 a.toNatClampNeg) ∧ xv_C M
noncomputable def fA_firstDayLeftShort (as : List Value) (M : xm_M) : Option Value × xm_M := match as with
  | [_, .int a] => (some (.int (xd_fd M (M 20 a.toNatClampNeg) (M 21 a.toNatClampNeg) (M 22 a.toNatClampNeg) (M 18 a.toNatClampNeg))), M)
  | _ => (none, M)
noncomputable abbrev sA_firstDayLeftShort : xm_C := (0, 2, 0, pA_firstDayLeftShort, fA_firstDayLeftShort)
theorem uA_firstDayLeftShort : ∀ as M, (fA_firstDayLeftShort as M).2 = M := by
  intro as M
  unfold fA_firstDayLeftShort
  split <;> rfl
theorem vA_firstDayLeftShort : ∀ as M, pA_firstDayLeftShort as M → ∃ as1, as = .ref 0 :: as1 := by
  rintro as M ⟨a, rfl, ⟨hp1, ⟨a0, b0, ha0, hb0, hab0, hb70⟩, hC⟩⟩
  exact ⟨_, rfl⟩
noncomputable def tA_firstDayLeftShort : List (Nat × xm_C) := [(363, sC_isWorkingDay), (366, sA_isHalf), (217, sA_crewLeftShort)]
theorem lA_firstDayLeftShort (l : Launch) : ∀ n C, (n, C) ∈ tA_firstDayLeftShort → xm_lkS l "AbsenceRows" xt_T xk_ns (xr_ 4) xk_cl xk_tA n C ∨ xm_lkV l "AbsenceRows" xt_T xk_ns (xr_ 4) xk_cl xk_tA n C := fun n C h => (show ∀ q ∈ tA_firstDayLeftShort, xm_lkS l "AbsenceRows" xt_T xk_ns (xr_ 4) xk_cl xk_tA q.1 q.2 ∨ xm_lkV l "AbsenceRows" xt_T xk_ns (xr_ 4) xk_cl xk_tA q.1 q.2 from List.forall_mem_cons.mpr ⟨Or.inr ⟨xy_C_isWorkingDay, xb_C_isWorkingDay, 2, (some .boolean), xr_ 0, 1, 1, 1, [some 7], xk_T1, 1, rfl, rfl, ⟨xe_C_isWorkingDay, xw_38, ⟨by decide, by decide, by decide +kernel⟩, ⟨Nat.le_of_ble_eq_true rfl, Nat.le_of_ble_eq_true rfl⟩, rfl, rfl⟩, xw_599, xw_422, xw_423, rfl, rfl, vC_isWorkingDay, Or.inl ⟨rfl, uC_isWorkingDay, cC_isWorkingDay l⟩⟩, List.forall_mem_cons.mpr ⟨Or.inl ⟨xy_A_isHalf, xb_A_isHalf, 4, (some .boolean), xr_ 0, rfl, ⟨xe_A_isHalf, xw_37, ⟨by decide, by decide, by decide +kernel⟩, ⟨Nat.le_of_ble_eq_true rfl, Nat.le_of_ble_eq_true rfl⟩, rfl, rfl⟩, xw_426, Or.inl xw_600, Or.inl ⟨rfl, uA_isHalf, cA_isHalf l⟩⟩, List.forall_mem_cons.mpr ⟨Or.inr ⟨xy_A_crewLeftShort, xb_A_crewLeftShort, 7, (some .int), xr_ 3, 2, 0, 0, [some 1, some 2, some 3, some 4, some 5, some 6, none, none, none], xk_T0, 9, rfl, rfl, ⟨xe_A_crewLeftShort, xw_37, ⟨by decide, by decide, by decide +kernel⟩, ⟨Nat.le_of_ble_eq_true rfl, Nat.le_of_ble_eq_true rfl⟩, rfl, rfl⟩, xw_601, xw_603, xw_9, rfl, rfl, vA_crewLeftShort, Or.inl ⟨rfl, uA_crewLeftShort, cA_crewLeftShort l⟩⟩, fun _ h => absurd h List.not_mem_nil⟩⟩⟩) (n, C) h
set_option maxRecDepth 20000 in
set_option maxHeartbeats 2000000 in
theorem cA_firstDayLeftShort (l : Launch) : xm_Pu l xy_A_firstDayLeftShort (Cond.code xy_A_firstDayLeftShort xb_A_firstDayLeftShort 4 (some .int) :: xt_T) (xr_ 4) xk_cl xk_ns xk_tA pA_firstDayLeftShort fA_firstDayLeftShort := by
  refine xm_mk_pu (rt := .int) (fl := xf_A) (ct := tA_firstDayLeftShort) (cn := []) (cj := []) (plainFor_of_name (by decide)) xs_A xd_A_firstDayLeftShort rfl (Or.inr rfl) (lA_firstDayLeftShort l) (fun as M j pc ls st M2 cl => match as with | [_, .int a] => (∃ i x b : Nat, M 20 a.toNatClampNeg = nI x ∧ M 21 a.toNatClampNeg = nI b ∧ x ≤ b ∧ b < 730 ∧ i ≤ b + 1 - x ∧ j = b + 1 - x - i ∧ (∀ k, k < i → ¬ xd_dy M (M 20 a.toNatClampNeg) (M 21 a.toNatClampNeg) (M 22 a.toNatClampNeg) (M 18 a.toNatClampNeg) x k) ∧ pc = 10 ∧ ls = [(0, .ref 0), (1, .int a), (2, .int (nI (x + i)))] ∧ st = [] ∧ M2 = M ∧ cl = 0) | _ => False) ?_ ?_ ?_ ?_ ?_
  · rintro as M ⟨a, rfl, ⟨hp1, ⟨a0, b0, ha0, hb0, hab0, hb70⟩, hC⟩⟩; exact Nat.le_of_ble_eq_true rfl
  · rintro as M ⟨a, rfl, ⟨hp1, ⟨a0, b0, ha0, hb0, hab0, hb70⟩, hC⟩⟩; simp [fA_firstDayLeftShort]
  · rintro as M v ⟨a, rfl, ⟨hp1, ⟨a0, b0, ha0, hb0, hab0, hb70⟩, hC⟩⟩ h; first | rfl | (simp [fA_firstDayLeftShort] at h)
  · rintro as M ⟨a, rfl, ⟨hp1, ⟨a0, b0, ha0, hb0, hab0, hb70⟩, hC⟩⟩ j pc ls st M2 cl ⟨i, x, b, ha, hb, hab, hb7, hi, hj, hno, rfl, rfl, rfl, rfl, rfl⟩
    refine ⟨400, (And.intro rfl (And.intro rfl (And.intro rfl (And.intro ?g1001_i_19 (And.intro (by decide) (And.intro (fun h20 => (And.intro ?g1002_w_105 ?g1003_r_105)) (fun h20 => (And.intro rfl (And.intro rfl (And.intro (Nat.le_of_ble_eq_true rfl) (And.intro (Nat.le_of_ble_eq_true rfl) (And.intro ?g1004_c_28 (And.intro (by decide) (And.intro (fun h31 => (And.intro (Nat.le_of_ble_eq_true rfl) (And.intro (by decide) (And.intro (fun h75 => (And.intro (Nat.le_of_ble_eq_true rfl) (And.intro (by decide) ?g1005_k_10))) (fun h75 => (And.intro rfl (And.intro rfl (And.intro rfl (And.intro ?g1006_i_87 (And.intro rfl (And.intro (Nat.le_of_ble_eq_true rfl) (And.intro (Nat.le_of_ble_eq_true rfl) (And.intro ?g1007_c_89 (And.intro (by decide) (And.intro (fun h93 => (And.intro (Nat.le_of_ble_eq_true rfl) (And.intro (by decide) ?g1008_k_10))) (fun h93 => (And.intro ?g1009_w_97 ?g1010_r_97))))))))))))))))) (fun h31 => (And.intro rfl (And.intro rfl (And.intro rfl (And.intro ?g1011_i_43 (And.intro rfl (And.intro rfl (And.intro rfl (And.intro ?g1012_i_52 (And.intro rfl (And.intro rfl (And.intro rfl (And.intro ?g1013_i_61 (And.intro rfl (And.intro (Nat.le_of_ble_eq_true rfl) (And.intro (Nat.le_of_ble_eq_true rfl) (And.intro ?g1014_c_62 (And.intro (by decide) (And.intro (fun h65 => (And.intro (Nat.le_of_ble_eq_true rfl) (And.intro (by decide) (And.intro (fun h75 => (And.intro (Nat.le_of_ble_eq_true rfl) (And.intro (by decide) ?g1015_k_10))) (fun h75 => (And.intro rfl (And.intro rfl (And.intro rfl (And.intro ?g1016_i_87 (And.intro rfl (And.intro (Nat.le_of_ble_eq_true rfl) (And.intro (Nat.le_of_ble_eq_true rfl) (And.intro ?g1017_c_89 (And.intro (by decide) (And.intro (fun h93 => (And.intro (Nat.le_of_ble_eq_true rfl) (And.intro (by decide) ?g1018_k_10))) (fun h93 => (And.intro ?g1019_w_97 ?g1020_r_97))))))))))))))))) (fun h65 => (And.intro (by decide) (And.intro (Nat.le_of_ble_eq_true rfl) (And.intro (by decide) (And.intro (fun h75 => (And.intro (Nat.le_of_ble_eq_true rfl) (And.intro (by decide) ?g1021_k_10))) (fun h75 => (And.intro rfl (And.intro rfl (And.intro rfl (And.intro ?g1022_i_87 (And.intro rfl (And.intro (Nat.le_of_ble_eq_true rfl) (And.intro (Nat.le_of_ble_eq_true rfl) (And.intro ?g1023_c_89 (And.intro (by decide) (And.intro (fun h93 => (And.intro (Nat.le_of_ble_eq_true rfl) (And.intro (by decide) ?g1024_k_10))) (fun h93 => (And.intro ?g1025_w_97 ?g1026_r_97)))))))))))))))))))))))))))))))))))))))))))))))))))⟩
    case g1001_i_19 =>
      exact hp1
    case g1002_w_105 =>
      first | rfl | exact xi_nb
    case g1003_r_105 =>
      obtain rfl : i = b + 1 - x := xl_de ha hb hb7 hab hi (by assumption)
      have e9 := xq_f_no hno
      refine ⟨xl_some ?_, rfl⟩
      unfold xd_fd
      rw [ha, hb] at e9 ⊢
      rw [nI_clamp (by omega), nI_clamp (by omega), xi_xt e9]; rfl
    case g1004_c_28 =>
      exact ⟨_, rfl, xl_d ha hb hb7 h20⟩
    case g1005_k_10 =>
      have hlt := xl_dl ha hb hb7 h20
      refine ⟨b + 1 - x - (i + 1), by omega, i + 1, x, b, ha, hb, hab, hb7, by omega, rfl, ?_, rfl, ?_, rfl, rfl, rfl⟩
      · intro k hk
        rcases Nat.lt_or_ge k i with q | q
        · exact hno k q
        · obtain rfl : k = i := by omega
          intro z
          obtain ⟨z1, z2, z3⟩ := z
          simp only [xi_0, xi_n0] at *
          grind
      · rw [← Nat.add_assoc, nI_succ]; rfl
    case g1006_i_87 =>
      exact hp1
    case g1007_c_89 =>
      exact ⟨_, _, rfl, hC⟩
    case g1008_k_10 =>
      have hlt := xl_dl ha hb hb7 h20
      refine ⟨b + 1 - x - (i + 1), by omega, i + 1, x, b, ha, hb, hab, hb7, by omega, rfl, ?_, rfl, ?_, rfl, rfl, rfl⟩
      · intro k hk
        rcases Nat.lt_or_ge k i with q | q
        · exact hno k q
        · obtain rfl : k = i := by omega
          intro z
          obtain ⟨z1, z2, z3⟩ := z
          simp only [xi_0, xi_n0] at *
          grind
      · rw [← Nat.add_assoc, nI_succ]; rfl
    case g1009_w_97 =>
      first | rfl | exact xi_nb
    case g1010_r_97 =>
      have hlt := xl_dl ha hb hb7 h20
      have hP : xd_dy M2 (M2 20 a.toNatClampNeg) (M2 21 a.toNatClampNeg) (M2 22 a.toNatClampNeg) (M2 18 a.toNatClampNeg) x i := by first | exact absurd rfl h75 | exact ⟨xi_n0.mp h31, xi_0.mp h65, h93⟩
      have e9 := xq_f_is hP hno (by omega) (b + 1 - x) (by omega)
      refine ⟨xl_some ?_, rfl⟩
      unfold xd_fd
      rw [ha, hb] at e9 ⊢
      rw [nI_clamp (by omega), nI_clamp (by omega), e9, xi_xf (xq_ne (by omega)), nI_add]
    case g1011_i_43 =>
      exact hp1
    case g1012_i_52 =>
      exact hp1
    case g1013_i_61 =>
      exact hp1
    case g1014_c_62 =>
      exact ⟨_, _, _, _, rfl⟩
    case g1015_k_10 =>
      have hlt := xl_dl ha hb hb7 h20
      refine ⟨b + 1 - x - (i + 1), by omega, i + 1, x, b, ha, hb, hab, hb7, by omega, rfl, ?_, rfl, ?_, rfl, rfl, rfl⟩
      · intro k hk
        rcases Nat.lt_or_ge k i with q | q
        · exact hno k q
        · obtain rfl : k = i := by omega
          intro z
          obtain ⟨z1, z2, z3⟩ := z
          simp only [xi_0, xi_n0] at *
          grind
      · rw [← Nat.add_assoc, nI_succ]; rfl
    case g1016_i_87 =>
      exact hp1
    case g1017_c_89 =>
      exact ⟨_, _, rfl, hC⟩
    case g1018_k_10 =>
      have hlt := xl_dl ha hb hb7 h20
      refine ⟨b + 1 - x - (i + 1), by omega, i + 1, x, b, ha, hb, hab, hb7, by omega, rfl, ?_, rfl, ?_, rfl, rfl, rfl⟩
      · intro k hk
        rcases Nat.lt_or_ge k i with q | q
        · exact hno k q
        · obtain rfl : k = i := by omega
          intro z
          obtain ⟨z1, z2, z3⟩ := z
          simp only [xi_0, xi_n0] at *
          grind
      · rw [← Nat.add_assoc, nI_succ]; rfl
    case g1019_w_97 =>
      first | rfl | exact xi_nb
    case g1020_r_97 =>
      have hlt := xl_dl ha hb hb7 h20
      have hP : xd_dy M2 (M2 20 a.toNatClampNeg) (M2 21 a.toNatClampNeg) (M2 22 a.toNatClampNeg) (M2 18 a.toNatClampNeg) x i := by first | exact absurd rfl h75 | exact ⟨xi_n0.mp h31, xi_0.mp h65, h93⟩
      have e9 := xq_f_is hP hno (by omega) (b + 1 - x) (by omega)
      refine ⟨xl_some ?_, rfl⟩
      unfold xd_fd
      rw [ha, hb] at e9 ⊢
      rw [nI_clamp (by omega), nI_clamp (by omega), e9, xi_xf (xq_ne (by omega)), nI_add]
    case g1021_k_10 =>
      have hlt := xl_dl ha hb hb7 h20
      refine ⟨b + 1 - x - (i + 1), by omega, i + 1, x, b, ha, hb, hab, hb7, by omega, rfl, ?_, rfl, ?_, rfl, rfl, rfl⟩
      · intro k hk
        rcases Nat.lt_or_ge k i with q | q
        · exact hno k q
        · obtain rfl : k = i := by omega
          intro z
          obtain ⟨z1, z2, z3⟩ := z
          simp only [xi_0, xi_n0] at *
          grind
      · rw [← Nat.add_assoc, nI_succ]; rfl
    case g1022_i_87 =>
      exact hp1
    case g1023_c_89 =>
      exact ⟨_, _, rfl, hC⟩
    case g1024_k_10 =>
      have hlt := xl_dl ha hb hb7 h20
      refine ⟨b + 1 - x - (i + 1), by omega, i + 1, x, b, ha, hb, hab, hb7, by omega, rfl, ?_, rfl, ?_, rfl, rfl, rfl⟩
      · intro k hk
        rcases Nat.lt_or_ge k i with q | q
        · exact hno k q
        · obtain rfl : k = i := by omega
          intro z
          obtain ⟨z1, z2, z3⟩ := z
          simp only [xi_0, xi_n0] at *
          grind
      · rw [← Nat.add_assoc, nI_succ]; rfl
    case g1025_w_97 =>
      first | rfl | exact xi_nb
    case g1026_r_97 =>
      have hlt := xl_dl ha hb hb7 h20
      have hP : xd_dy M2 (M2 20 a.toNatClampNeg) (M2 21 a.toNatClampNeg) (M2 22 a.toNatClampNeg) (M2 18 a.toNatClampNeg) x i := by first | exact absurd rfl h75 | exact ⟨xi_n0.mp h31, xi_0.mp h65, h93⟩
      have e9 := xq_f_is hP hno (by omega) (b + 1 - x) (by omega)
      refine ⟨xl_some ?_, rfl⟩
      unfold xd_fd
      rw [ha, hb] at e9 ⊢
      rw [nI_clamp (by omega), nI_clamp (by omega), e9, xi_xf (xq_ne (by omega)), nI_add]
  · rintro as M ⟨a, rfl, ⟨hp1, ⟨a0, b0, ha0, hb0, hab0, hb70⟩, hC⟩⟩
    refine ⟨400, (And.intro rfl (And.intro rfl (And.intro rfl (And.intro ?g1_i_8 (And.intro (Nat.le_of_ble_eq_true rfl) ?g2_k_10)))))⟩
    case g1_i_8 =>
      exact hp1
    case g2_k_10 =>
      refine ⟨b0 + 1 - a0 - 0, 0, a0, b0, ha0, hb0, hab0, hb70, Nat.zero_le _, rfl, fun k hk => absurd hk (Nat.not_lt_zero k), rfl, ?_, rfl, rfl, rfl⟩
      rw [Nat.add_zero, ← ha0]; rfl
def pA_nextToAsk (as : List Value) (M : xm_M) : Prop := ∃ k : Int32, as = [.ref 0, .int k] ∧ vp_in k 60 ∧ vp_in (M 28 k.toNatClampNeg) 6 ∧ xv_C M
noncomputable def fA_nextToAsk (as : List Value) (M : xm_M) : Option Value × xm_M := match as with
  | [_, .int k] => (some (.int (xd_nx M k)), M)
  | _ => (none, M)
noncomputable abbrev sA_nextToAsk : xm_C := (0, 2, 0, pA_nextToAsk, fA_nextToAsk)
theorem uA_nextToAsk : ∀ as M, (fA_nextToAsk as M).2 = M := by
  intro as M
  unfold fA_nextToAsk
  split <;> rfl
theorem vA_nextToAsk : ∀ as M, pA_nextToAsk as M → ∃ as1, as = .ref 0 :: as1 := by
  rintro as M ⟨k, rfl, ⟨hk1, hk2, hC⟩⟩
  exact ⟨_, rfl⟩
noncomputable def tA_nextToAsk : List (Nat × xm_C) := [(258, sA_atWorkOn), (383, sL_engagedOn), (149, sA_holds), (389, sP_haveSkills), (392, sP_goesBefore)]
theorem lA_nextToAsk (l : Launch) : ∀ n C, (n, C) ∈ tA_nextToAsk → xm_lkS l "AbsenceRows" xt_T xk_ns (xr_ 3) xk_cl xk_tA n C ∨ xm_lkV l "AbsenceRows" xt_T xk_ns (xr_ 3) xk_cl xk_tA n C := fun n C h => (show ∀ q ∈ tA_nextToAsk, xm_lkS l "AbsenceRows" xt_T xk_ns (xr_ 3) xk_cl xk_tA q.1 q.2 ∨ xm_lkV l "AbsenceRows" xt_T xk_ns (xr_ 3) xk_cl xk_tA q.1 q.2 from List.forall_mem_cons.mpr ⟨Or.inr ⟨xy_A_atWorkOn, xb_A_atWorkOn, 2, (some .int), xr_ 2, 1, 0, 0, [some 1, some 2, some 3, some 4, some 5, some 6, none, none, none], xk_T0, 9, rfl, rfl, ⟨xe_A_atWorkOn, xw_37, ⟨by decide, by decide, by decide +kernel⟩, ⟨Nat.le_of_ble_eq_true rfl, Nat.le_of_ble_eq_true rfl⟩, rfl, rfl⟩, xw_605, xw_607, xw_10, rfl, rfl, vA_atWorkOn, Or.inl ⟨rfl, uA_atWorkOn, cA_atWorkOn l⟩⟩, List.forall_mem_cons.mpr ⟨Or.inr ⟨xy_L_engagedOn, xb_L_engagedOn, 4, (some .int), xr_ 1, 1, 6, 6, [none, some 28, some 29, some 30, some 31, some 32, some 33], xk_T6, 7, rfl, rfl, ⟨xe_L_engagedOn, xw_43, ⟨by decide, by decide, by decide +kernel⟩, ⟨Nat.le_of_ble_eq_true rfl, Nat.le_of_ble_eq_true rfl⟩, rfl, rfl⟩, xw_733, xw_734, xw_735, rfl, rfl, vL_engagedOn, Or.inl ⟨rfl, uL_engagedOn, cL_engagedOn l⟩⟩, List.forall_mem_cons.mpr ⟨Or.inl ⟨xy_A_holds, xb_A_holds, 2, (some .boolean), xr_ 1, rfl, ⟨xe_A_holds, xw_37, ⟨by decide, by decide, by decide +kernel⟩, ⟨Nat.le_of_ble_eq_true rfl, Nat.le_of_ble_eq_true rfl⟩, rfl, rfl⟩, xw_526, Or.inl xw_525, Or.inl ⟨rfl, uA_holds, cA_holds l⟩⟩, List.forall_mem_cons.mpr ⟨Or.inr ⟨xy_P_haveSkills, xb_P_haveSkills, 6, (some .boolean), xr_ 1, 3, 2, 2, [none, some 8, some 9, some 10, some 11, some 12, some 13, some 14], xk_T2, 8, rfl, rfl, ⟨xe_P_haveSkills, xw_39, ⟨by decide, by decide, by decide +kernel⟩, ⟨Nat.le_of_ble_eq_true rfl, Nat.le_of_ble_eq_true rfl⟩, rfl, rfl⟩, xw_737, xw_738, xw_739, rfl, rfl, vP_haveSkills, Or.inl ⟨rfl, uP_haveSkills, cP_haveSkills l⟩⟩, List.forall_mem_cons.mpr ⟨Or.inr ⟨xy_P_goesBefore, xb_P_goesBefore, 3, (some .boolean), xr_ 0, 2, 2, 2, [none, some 8, some 9, some 10, some 11, some 12, some 13, some 14], xk_T2, 8, rfl, rfl, ⟨xe_P_goesBefore, xw_39, ⟨by decide, by decide, by decide +kernel⟩, ⟨Nat.le_of_ble_eq_true rfl, Nat.le_of_ble_eq_true rfl⟩, rfl, rfl⟩, xw_741, xw_742, xw_743, rfl, rfl, vP_goesBefore, Or.inl ⟨rfl, uP_goesBefore, cP_goesBefore l⟩⟩, fun _ h => absurd h List.not_mem_nil⟩⟩⟩⟩⟩) (n, C) h
set_option maxRecDepth 20000 in
set_option maxHeartbeats 2000000 in
theorem cA_nextToAsk (l : Launch) : xm_Pu l xy_A_nextToAsk (Cond.code xy_A_nextToAsk xb_A_nextToAsk 7 (some .int) :: xt_T) (xr_ 3) xk_cl xk_ns xk_tA pA_nextToAsk fA_nextToAsk := by
  refine xm_mk_pu (rt := .int) (fl := xf_A) (ct := tA_nextToAsk) (cn := []) (cj := []) (plainFor_of_name (by decide)) xs_A xd_A_nextToAsk rfl (Or.inr rfl) (lA_nextToAsk l) (fun as M j pc ls st M2 cl => match as with | [_, .int k] => (∃ i c : Nat, M 2 0 = nI c ∧ c ≤ 20 ∧ i ≤ c ∧ j = c - i ∧ pc = 68 ∧ ls = [(0, .ref 0), (1, .int k), (2, .int (M 28 k.toNatClampNeg)), (3, .int (M 29 k.toNatClampNeg)), (4, .int (xd_can M (M 28 k.toNatClampNeg) (M 29 k.toNatClampNeg) k)), (5, .int (xq_b M (xd_can M (M 28 k.toNatClampNeg) (M 29 k.toNatClampNeg) k) (M 15 (M 28 k.toNatClampNeg).toNatClampNeg) (M 29 k.toNatClampNeg) i)), (6, .int (nI i))] ∧ st = [] ∧ M2 = M ∧ cl = 0) | _ => False) ?_ ?_ ?_ ?_ ?_
  · rintro as M ⟨k, rfl, ⟨hk1, hk2, hC⟩⟩; exact Nat.le_of_ble_eq_true rfl
  · rintro as M ⟨k, rfl, ⟨hk1, hk2, hC⟩⟩; simp [fA_nextToAsk]
  · rintro as M v ⟨k, rfl, ⟨hk1, hk2, hC⟩⟩ h; first | rfl | (simp [fA_nextToAsk] at h)
  · rintro as M ⟨k, rfl, ⟨hk1, hk2, hC⟩⟩ j pc ls st M2 cl ⟨i, c, hc, hc20, hic, hj, rfl, rfl, rfl, rfl, rfl⟩
    refine ⟨400, (And.intro rfl (And.intro rfl (And.intro (by decide) (And.intro (fun h77 => (And.intro ?g1001_w_144 ?g1002_r_144)) (fun h77 => (And.intro rfl (And.intro (Nat.le_of_ble_eq_true rfl) (And.intro (Nat.le_of_ble_eq_true rfl) (And.intro ?g1003_c_84 (And.intro (by decide) (And.intro (fun h87 => (And.intro (Nat.le_of_ble_eq_true rfl) (And.intro (by decide) ?g1004_k_68))) (fun h87 => (And.intro rfl (And.intro rfl (And.intro rfl (And.intro rfl (And.intro ?g1005_i_104 (And.intro rfl (And.intro (Nat.le_of_ble_eq_true rfl) (And.intro (Nat.le_of_ble_eq_true rfl) (And.intro ?g1006_c_106 (And.intro (by decide) (And.intro (fun h109 => (And.intro (Nat.le_of_ble_eq_true rfl) (And.intro (by decide) ?g1007_k_68))) (fun h109 => (And.intro (by decide) (And.intro (fun h115 => (And.intro (Nat.le_of_ble_eq_true rfl) (And.intro (Nat.le_of_ble_eq_true rfl) (And.intro (by decide) ?g1008_k_68)))) (fun h115 => (And.intro rfl (And.intro rfl (And.intro (Nat.le_of_ble_eq_true rfl) (And.intro (Nat.le_of_ble_eq_true rfl) (And.intro ?g1009_c_126 (And.intro (by decide) (And.intro (fun h129 => (And.intro (Nat.le_of_ble_eq_true rfl) (And.intro (by decide) ?g1010_k_68))) (fun h129 => (And.intro (Nat.le_of_ble_eq_true rfl) (And.intro (Nat.le_of_ble_eq_true rfl) (And.intro (by decide) ?g1011_k_68))))))))))))))))))))))))))))))))))))))⟩
    case g1001_w_144 =>
      first | rfl | exact xi_nb
    case g1002_r_144 =>
      obtain rfl := xl_end hc (by omega) hic (by assumption)
      refine ⟨xl_some ?_, rfl⟩
      unfold xd_nx
      rw [hc, nI_clamp (by omega)]
    case g1003_c_84 =>
      exact ⟨_, _, rfl⟩
    case g1004_k_68 =>
      have hlt := xl_lt hc hic h77
      refine ⟨c - (i + 1), by omega, i + 1, c, hc, hc20, by omega, rfl, rfl, ?_, rfl, rfl, rfl⟩
      rw [nI_succ, xq_b1]
      generalize hb : xq_b M2 (xd_can M2 (M2 28 k.toNatClampNeg) (M2 29 k.toNatClampNeg) k) (M2 15 (M2 28 k.toNatClampNeg).toNatClampNeg) (M2 29 k.toNatClampNeg) i = b at *
      by_cases hz : (¬ xd_can M2 (M2 28 k.toNatClampNeg) (M2 29 k.toNatClampNeg) k &&& (1 <<< (nI i &&& 31)) = 0 ∧ xd_hs M2 (nI i) (M2 15 (M2 28 k.toNatClampNeg).toNatClampNeg) (M2 29 k.toNatClampNeg) ∧ (b = -1 ∨ xd_gb M2 (nI i) b))
      · rw [xi_xt hz]
        first | rfl | (exfalso; obtain ⟨z1, z2, z3⟩ := hz; simp only [xi_0, xi_n0, xd_gb] at *; grind)
      · rw [xi_xf hz]
        first | rfl | (exfalso; apply hz; simp only [xi_0, xi_n0, xd_gb] at *; grind)
    case g1005_i_104 =>
      exact hk2
    case g1006_c_106 =>
      exact ⟨_, _, _, rfl, vp_in_nI (Nat.lt_of_lt_of_le (xl_lt hc hic h77) hc20) (by decide)⟩
    case g1007_k_68 =>
      have hlt := xl_lt hc hic h77
      refine ⟨c - (i + 1), by omega, i + 1, c, hc, hc20, by omega, rfl, rfl, ?_, rfl, rfl, rfl⟩
      rw [nI_succ, xq_b1]
      generalize hb : xq_b M2 (xd_can M2 (M2 28 k.toNatClampNeg) (M2 29 k.toNatClampNeg) k) (M2 15 (M2 28 k.toNatClampNeg).toNatClampNeg) (M2 29 k.toNatClampNeg) i = b at *
      by_cases hz : (¬ xd_can M2 (M2 28 k.toNatClampNeg) (M2 29 k.toNatClampNeg) k &&& (1 <<< (nI i &&& 31)) = 0 ∧ xd_hs M2 (nI i) (M2 15 (M2 28 k.toNatClampNeg).toNatClampNeg) (M2 29 k.toNatClampNeg) ∧ (b = -1 ∨ xd_gb M2 (nI i) b))
      · rw [xi_xt hz]
        first | rfl | (exfalso; obtain ⟨z1, z2, z3⟩ := hz; simp only [xi_0, xi_n0, xd_gb] at *; grind)
      · rw [xi_xf hz]
        first | rfl | (exfalso; apply hz; simp only [xi_0, xi_n0, xd_gb] at *; grind)
    case g1008_k_68 =>
      have hlt := xl_lt hc hic h77
      refine ⟨c - (i + 1), by omega, i + 1, c, hc, hc20, by omega, rfl, rfl, ?_, rfl, rfl, rfl⟩
      rw [nI_succ, xq_b1]
      generalize hb : xq_b M2 (xd_can M2 (M2 28 k.toNatClampNeg) (M2 29 k.toNatClampNeg) k) (M2 15 (M2 28 k.toNatClampNeg).toNatClampNeg) (M2 29 k.toNatClampNeg) i = b at *
      by_cases hz : (¬ xd_can M2 (M2 28 k.toNatClampNeg) (M2 29 k.toNatClampNeg) k &&& (1 <<< (nI i &&& 31)) = 0 ∧ xd_hs M2 (nI i) (M2 15 (M2 28 k.toNatClampNeg).toNatClampNeg) (M2 29 k.toNatClampNeg) ∧ (b = -1 ∨ xd_gb M2 (nI i) b))
      · rw [xi_xt hz]
        first | rfl | (exfalso; obtain ⟨z1, z2, z3⟩ := hz; simp only [xi_0, xi_n0, xd_gb] at *; grind)
      · rw [xi_xf hz]
        first | rfl | (exfalso; apply hz; simp only [xi_0, xi_n0, xd_gb] at *; grind)
    case g1009_c_126 =>
      have hlt := xl_lt hc hic h77
      refine ⟨_, _, rfl, vp_in_nI (Nat.lt_of_lt_of_le hlt hc20) (by decide), ?_⟩
      rcases xq_b_in M2 (xd_can M2 (M2 28 k.toNatClampNeg) (M2 29 k.toNatClampNeg) k) (M2 15 (M2 28 k.toNatClampNeg).toNatClampNeg) (M2 29 k.toNatClampNeg) i with q | ⟨m, q1, q2⟩
      · exact absurd q h115
      · rw [q2]; exact vp_in_nI (by omega) (by decide)
    case g1010_k_68 =>
      have hlt := xl_lt hc hic h77
      refine ⟨c - (i + 1), by omega, i + 1, c, hc, hc20, by omega, rfl, rfl, ?_, rfl, rfl, rfl⟩
      rw [nI_succ, xq_b1]
      generalize hb : xq_b M2 (xd_can M2 (M2 28 k.toNatClampNeg) (M2 29 k.toNatClampNeg) k) (M2 15 (M2 28 k.toNatClampNeg).toNatClampNeg) (M2 29 k.toNatClampNeg) i = b at *
      by_cases hz : (¬ xd_can M2 (M2 28 k.toNatClampNeg) (M2 29 k.toNatClampNeg) k &&& (1 <<< (nI i &&& 31)) = 0 ∧ xd_hs M2 (nI i) (M2 15 (M2 28 k.toNatClampNeg).toNatClampNeg) (M2 29 k.toNatClampNeg) ∧ (b = -1 ∨ xd_gb M2 (nI i) b))
      · rw [xi_xt hz]
        first | rfl | (exfalso; obtain ⟨z1, z2, z3⟩ := hz; simp only [xi_0, xi_n0, xd_gb] at *; grind)
      · rw [xi_xf hz]
        first | rfl | (exfalso; apply hz; simp only [xi_0, xi_n0, xd_gb] at *; grind)
    case g1011_k_68 =>
      have hlt := xl_lt hc hic h77
      refine ⟨c - (i + 1), by omega, i + 1, c, hc, hc20, by omega, rfl, rfl, ?_, rfl, rfl, rfl⟩
      rw [nI_succ, xq_b1]
      generalize hb : xq_b M2 (xd_can M2 (M2 28 k.toNatClampNeg) (M2 29 k.toNatClampNeg) k) (M2 15 (M2 28 k.toNatClampNeg).toNatClampNeg) (M2 29 k.toNatClampNeg) i = b at *
      by_cases hz : (¬ xd_can M2 (M2 28 k.toNatClampNeg) (M2 29 k.toNatClampNeg) k &&& (1 <<< (nI i &&& 31)) = 0 ∧ xd_hs M2 (nI i) (M2 15 (M2 28 k.toNatClampNeg).toNatClampNeg) (M2 29 k.toNatClampNeg) ∧ (b = -1 ∨ xd_gb M2 (nI i) b))
      · rw [xi_xt hz]
        first | rfl | (exfalso; obtain ⟨z1, z2, z3⟩ := hz; simp only [xi_0, xi_n0, xd_gb] at *; grind)
      · rw [xi_xf hz]
        first | rfl | (exfalso; apply hz; simp only [xi_0, xi_n0, xd_gb] at *; grind)
  · rintro as M ⟨k, rfl, ⟨hk1, hk2, hC⟩⟩
    refine ⟨400, (And.intro rfl (And.intro rfl (And.intro rfl (And.intro ?g1_i_8 (And.intro (Nat.le_of_ble_eq_true rfl) (And.intro rfl (And.intro rfl (And.intro rfl (And.intro ?g2_i_18 (And.intro (Nat.le_of_ble_eq_true rfl) (And.intro rfl (And.intro (Nat.le_of_ble_eq_true rfl) (And.intro (Nat.le_of_ble_eq_true rfl) (And.intro ?g3_c_22 (And.intro rfl (And.intro rfl (And.intro rfl (And.intro ?g4_i_33 (And.intro rfl (And.intro rfl (And.intro (Nat.le_of_ble_eq_true rfl) (And.intro (Nat.le_of_ble_eq_true rfl) (And.intro ?g5_c_42 (And.intro rfl (And.intro rfl (And.intro rfl (And.intro ?g6_i_56 (And.intro (Nat.le_of_ble_eq_true rfl) (And.intro (Nat.le_of_ble_eq_true rfl) (And.intro (Nat.le_of_ble_eq_true rfl) ?g7_k_68))))))))))))))))))))))))))))))⟩
    case g1_i_8 =>
      exact hk1
    case g2_i_18 =>
      exact hk1
    case g3_c_22 =>
      exact ⟨_, rfl, hC⟩
    case g4_i_33 =>
      exact hk2
    case g5_c_42 =>
      exact ⟨_, rfl, hC.2.2.2⟩
    case g6_i_56 =>
      exact hk1
    case g7_k_68 =>
      obtain ⟨c0, h1, h2⟩ := hC.1
      exact ⟨c0 - 0, 0, c0, h2, h1, Nat.zero_le _, rfl, rfl, rfl, rfl, rfl, rfl⟩
end
section
/-! WRITERS of the class -/
noncomputable def xq_g : Nat → Int32 → Int32 → Int32
  | 0, a, _ => a
  | n + 1, a, b => xi_x (0 < b) (xq_g n b (a - a / b * b)) a
theorem xq_g_le {a b : Int32} (h : ¬ 0 < b) : ∀ n, xq_g n a b = a
  | 0 => rfl
  | n + 1 => by
    show xi_x _ _ _ = a
    rw [xi_xf h]
noncomputable def xm_an (M : xm_M) (k : Int32) (nx : Int32) : xm_M := xm_up (xm_up (xm_up (xm_up M 13 nx.toNatClampNeg (M 13 nx.toNatClampNeg + 1)) 31 k.toNatClampNeg nx) 32 k.toNatClampNeg (M 32 k.toNatClampNeg ||| (1 <<< (nx &&& 31)))) 33 k.toNatClampNeg (M 0 8 + M 0 7)
noncomputable def xm_fl (M : xm_M) (k : Int32) : xm_M := xm_up (xm_up (xm_up M 30 k.toNatClampNeg 2) 31 k.toNatClampNeg (-1)) 33 k.toNatClampNeg (-1)
noncomputable def xm_nx (M : xm_M) (k : Int32) : xm_M := @ite xm_M (xd_nx M k = -1) (Classical.propDecidable _) (xm_fl M k) (xm_an M k (xd_nx M k))
theorem xd_nx_in {M : xm_M} {k : Int32} (h : xv_n (M 2 0) 20) (hn : ¬ xd_nx M k = -1) : vp_in (xd_nx M k) 20 := by
  obtain ⟨c, h1, h2⟩ := h
  unfold xd_nx at hn ⊢
  rw [h2, nI_clamp (by omega)] at hn ⊢
  rcases xq_b_in M (xd_can M (M 28 k.toNatClampNeg) (M 29 k.toNatClampNeg) k) (M 15 (M 28 k.toNatClampNeg).toNatClampNeg) (M 29 k.toNatClampNeg) c with q | ⟨m, q1, q2⟩
  · exact absurd q hn
  · rw [q2]; exact vp_in_nI (by omega) (by decide)
theorem xm_up_id (M : xm_M) (p k : Nat) : xm_up M p k (M p k) = M := by
  funext a b
  by_cases h1 : a = p
  · by_cases h2 : b = k
    · simp [xm_up, h1, h2]
    · simp [xm_up, h1, h2]
  · simp [xm_up, h1]
def pA_greatestDivisor (as : List Value) (M : xm_M) : Prop := ∃ p d : Int32, as = [.int p, .int d]
noncomputable def fA_greatestDivisor (as : List Value) (M : xm_M) : Option Value × xm_M := match as with
  | [.int p, .int d] => (some (.int ((fun z : Int32 => if (1 : Int32) < z then z else 1) (xq_g 1000 (if 0 ≤ p then p else -p) d))), M)
  | _ => (none, M)
noncomputable abbrev sA_greatestDivisor : xm_C := (1, 2, 0, pA_greatestDivisor, fA_greatestDivisor)
theorem uA_greatestDivisor : ∀ as M, (fA_greatestDivisor as M).2 = M := by
  intro as M
  unfold fA_greatestDivisor
  split <;> rfl
noncomputable def tA_greatestDivisor : List (Nat × xm_C) := [(395, sJ_abs), (333, sJ_max)]
theorem lA_greatestDivisor (l : Launch) : ∀ n C, (n, C) ∈ tA_greatestDivisor → xm_lkS l "AbsenceRows" xt_T xk_ns (xr_ 1) xk_cl xk_tA n C ∨ xm_lkV l "AbsenceRows" xt_T xk_ns (xr_ 1) xk_cl xk_tA n C := fun n C h => (show ∀ q ∈ tA_greatestDivisor, xm_lkS l "AbsenceRows" xt_T xk_ns (xr_ 1) xk_cl xk_tA q.1 q.2 ∨ xm_lkV l "AbsenceRows" xt_T xk_ns (xr_ 1) xk_cl xk_tA q.1 q.2 from List.forall_mem_cons.mpr ⟨Or.inl ⟨xy_J_abs, xb_J_abs, 1, (some .int), xr_ 0, rfl, ⟨xe_J_abs, xw_51, ⟨by decide, by decide, by decide +kernel⟩, ⟨Nat.le_of_ble_eq_true rfl, Nat.le_of_ble_eq_true rfl⟩, rfl, rfl⟩, xw_666, Or.inl xw_665, Or.inl ⟨rfl, uJ_abs, cJ_abs l⟩⟩, List.forall_mem_cons.mpr ⟨Or.inl ⟨xy_J_max, xb_J_max, 2, (some .int), xr_ 0, rfl, ⟨xe_J_max, xw_51, ⟨by decide, by decide, by decide +kernel⟩, ⟨Nat.le_of_ble_eq_true rfl, Nat.le_of_ble_eq_true rfl⟩, rfl, rfl⟩, xw_436, Or.inl xw_449, Or.inl ⟨rfl, uJ_max, cJ_max l⟩⟩, fun _ h => absurd h List.not_mem_nil⟩⟩) (n, C) h
set_option maxRecDepth 20000 in
set_option maxHeartbeats 2000000 in
theorem cA_greatestDivisor (l : Launch) : xm_Pu l xy_A_greatestDivisor (Cond.code xy_A_greatestDivisor xb_A_greatestDivisor 6 (some .int) :: xt_T) (xr_ 1) xk_cl xk_ns xk_tA pA_greatestDivisor fA_greatestDivisor := by
  refine xm_mk_pu (rt := .int) (fl := xf_A) (ct := tA_greatestDivisor) (cn := []) (cj := []) (plainFor_of_name (by decide)) xs_A xd_A_greatestDivisor rfl (Or.inr rfl) (lA_greatestDivisor l) (fun as M j pc ls st M2 cl => match as with | [.int p, .int d] => (∃ s x y, s.toNatClampNeg ≤ 1000 ∧ s = nI s.toNatClampNeg ∧ j = 1000 - s.toNatClampNeg ∧ xq_g (1000 - s.toNatClampNeg) x y = xq_g 1000 (if 0 ≤ p then p else -p) d ∧ pc = 10 ∧ ls = [(0, .int p), (1, .int d), (2, .int x), (3, .int y), (4, .int s)] ∧ st = [] ∧ M2 = M ∧ cl = 0) | _ => False) ?_ ?_ ?_ ?_ ?_
  · rintro as M ⟨p, d, rfl⟩; exact Nat.le_of_ble_eq_true rfl
  · rintro as M ⟨p, d, rfl⟩; simp [fA_greatestDivisor]
  · rintro as M v ⟨p, d, rfl⟩ h; first | rfl | (simp [fA_greatestDivisor] at h)
  · rintro as M ⟨p, d, rfl⟩ j pc ls st M2 cl ⟨s, x, y, hs, hs1, hj, hg, rfl, rfl, rfl, rfl, rfl⟩
    refine ⟨400, (And.intro (by decide) (And.intro (fun h15 => (And.intro rfl (And.intro (Nat.le_of_ble_eq_true rfl) (And.intro (Nat.le_of_ble_eq_true rfl) (And.intro ?g1001_c_40 (And.intro ?g1002_w_43 ?g1003_r_43)))))) (fun h15 => (And.intro (by decide) (And.intro (fun h19 => (And.intro rfl (And.intro (Nat.le_of_ble_eq_true rfl) (And.intro (Nat.le_of_ble_eq_true rfl) (And.intro ?g1004_c_40 (And.intro ?g1005_w_43 ?g1006_r_43)))))) (fun h19 => (And.intro ?g1007_n_24 (And.intro (Nat.le_of_ble_eq_true rfl) (And.intro (Nat.le_of_ble_eq_true rfl) (And.intro (Nat.le_of_ble_eq_true rfl) (And.intro (Nat.le_of_ble_eq_true rfl) (And.intro (by decide) ?g1008_k_10))))))))))))⟩
    case g1001_c_40 =>
      exact ⟨_, _, rfl⟩
    case g1002_w_43 =>
      first | rfl | exact xi_nb
    case g1003_r_43 =>
      refine ⟨xl_some ?_, rfl⟩
      have hx : xq_g (1000 - s.toNatClampNeg) x y = x := by
        first
        | exact xq_g_le (Int32.not_lt.mpr h19) _
        | (have e1 := xl_end (x := Int32.ofInt 1000) (c := 1000) rfl (by decide) hs (by rw [← hs1]; exact h15)
           rw [e1]; rfl)
      rw [← hg, hx]
      rfl
    case g1004_c_40 =>
      exact ⟨_, _, rfl⟩
    case g1005_w_43 =>
      first | rfl | exact xi_nb
    case g1006_r_43 =>
      refine ⟨xl_some ?_, rfl⟩
      have hx : xq_g (1000 - s.toNatClampNeg) x y = x := by
        first
        | exact xq_g_le (Int32.not_lt.mpr h19) _
        | (have e1 := xl_end (x := Int32.ofInt 1000) (c := 1000) rfl (by decide) hs (by rw [← hs1]; exact h15)
           rw [e1]; rfl)
      rw [← hg, hx]
      rfl
    case g1007_n_24 =>
      exact fun z => h19 (by rw [z]; exact Int32.le_refl _)
    case g1008_k_10 =>
      have hlt := xl_lt (x := Int32.ofInt 1000) (c := 1000) rfl hs (by rw [← hs1]; exact h15)
      refine ⟨1000 - (s.toNatClampNeg + 1), by omega, nI (s.toNatClampNeg + 1), y, x - x / y * y, ?_, ?_, ?_, ?_, rfl, ?_, rfl, rfl, rfl⟩
      · rw [nI_clamp (by omega)]; omega
      · rw [nI_clamp (by omega)]
      · rw [nI_clamp (by omega)]
      · rw [nI_clamp (by omega), ← hg]
        obtain ⟨m, hm⟩ : ∃ m, 1000 - s.toNatClampNeg = m + 1 := ⟨1000 - s.toNatClampNeg - 1, by omega⟩
        rw [hm, show 1000 - (s.toNatClampNeg + 1) = m by omega]
        show _ = xi_x _ _ _
        rw [xi_xt (Int32.not_le.mp h19)]
      · rw [nI_succ, ← hs1]; rfl
  · rintro as M ⟨p, d, rfl⟩
    refine ⟨400, (And.intro rfl (And.intro (Nat.le_of_ble_eq_true rfl) (And.intro (Nat.le_of_ble_eq_true rfl) (And.intro ?g1_c_1 (And.intro (Nat.le_of_ble_eq_true rfl) (And.intro (Nat.le_of_ble_eq_true rfl) (And.intro (Nat.le_of_ble_eq_true rfl) ?g2_k_10)))))))⟩
    case g1_c_1 =>
      exact ⟨_, rfl⟩
    case g2_k_10 =>
      exact ⟨1000 - 0, 0, _, _, Nat.zero_le _, rfl, rfl, rfl, rfl, rfl, rfl, rfl, rfl⟩
def pP_add (as : List Value) (M : xm_M) : Prop := ∃ s r d : Int32, as = [.ref 2, .int s, .int r, .int d] ∧ vp_in (M 2 0) 20
noncomputable def fP_add (as : List Value) (M : xm_M) : Option Value × xm_M := match as with
  | [_, .int s, .int r, .int d] => (some (.int (M 2 0 + 1 - 1)), (xm_up (xm_up (xm_up (xm_up (xm_up M 8 (M 2 0).toNatClampNeg s) 9 (M 2 0).toNatClampNeg r) 10 (M 2 0).toNatClampNeg d) 12 (M 2 0).toNatClampNeg 1) 2 0 (M 2 0 + 1)))
  | _ => (none, M)
noncomputable abbrev sP_add : xm_C := (0, 4, 1, pP_add, fP_add)
theorem vP_add : ∀ as M, pP_add as M → ∃ as1, as = .ref 2 :: as1 := by
  rintro as M ⟨s, r, d, rfl, hpre⟩
  exact ⟨_, rfl⟩
noncomputable def tP_add : List (Nat × xm_C) := []
theorem lP_add (l : Launch) : ∀ n C, (n, C) ∈ tP_add → xm_lkS l "AbsenceRows$Persons" xt_T xk_ns (xr_ 0) xk_cl xk_tA n C ∨ xm_lkV l "AbsenceRows$Persons" xt_T xk_ns (xr_ 0) xk_cl xk_tA n C := fun n C h => (show ∀ q ∈ tP_add, xm_lkS l "AbsenceRows$Persons" xt_T xk_ns (xr_ 0) xk_cl xk_tA q.1 q.2 ∨ xm_lkV l "AbsenceRows$Persons" xt_T xk_ns (xr_ 0) xk_cl xk_tA q.1 q.2 from fun _ h => absurd h List.not_mem_nil) (n, C) h
set_option maxRecDepth 20000 in
set_option maxHeartbeats 2000000 in
theorem cP_add (l : Launch) : xm_Wr l xy_P_add (Cond.code xy_P_add xb_P_add 4 (some .int) :: xt_T) (xr_ 0) xk_cl xk_ns xk_tA pP_add fP_add := by
  refine xm_mk_wr (rt := .int) (fl := xf_P) (ct := tP_add) (cn := []) (cj := []) (plainFor_of_name (by decide)) xs_P xd_P_add rfl (Or.inr rfl) (lP_add l) (fun _ _ _ _ _ _ _ _ => False) ?_ ?_ ?_ (fun _ _ _ _ _ _ _ _ _ h => h.elim) ?_
  · rintro as M ⟨s, r, d, rfl, hpre⟩; exact Nat.le_of_ble_eq_true rfl
  · rintro as M ⟨s, r, d, rfl, hpre⟩; simp [fP_add]
  · rintro as M v ⟨s, r, d, rfl, hpre⟩ h; first | rfl | (simp [fP_add] at h)
  · rintro as M ⟨s, r, d, rfl, hpre⟩
    refine ⟨400, (And.intro rfl (And.intro rfl (And.intro rfl (And.intro ?g1_i_9 (And.intro rfl (And.intro rfl (And.intro rfl (And.intro ?g2_i_19 (And.intro rfl (And.intro rfl (And.intro rfl (And.intro ?g3_i_29 (And.intro rfl (And.intro rfl (And.intro rfl (And.intro ?g4_i_39 (And.intro rfl (And.intro rfl (And.intro rfl (And.intro rfl (And.intro ?g5_w_56 ?g6_r_56)))))))))))))))))))))⟩
    case g1_i_9 =>
      exact hpre
    case g2_i_19 =>
      exact hpre
    case g3_i_29 =>
      exact hpre
    case g4_i_39 =>
      exact hpre
    case g5_w_56 =>
      first | rfl | exact xi_nb
    case g6_r_56 =>
      exact ⟨rfl, rfl⟩
def pW_add (as : List Value) (M : xm_M) : Prop := ∃ s r : Int32, as = [.ref 3, .int s, .int r] ∧ vp_in (M 3 0) 6
noncomputable def fW_add (as : List Value) (M : xm_M) : Option Value × xm_M := match as with
  | [_, .int s, .int r] => (some (.int (M 3 0 + 1 - 1)), (xm_up (xm_up (xm_up M 15 (M 3 0).toNatClampNeg s) 16 (M 3 0).toNatClampNeg r) 3 0 (M 3 0 + 1)))
  | _ => (none, M)
noncomputable abbrev sW_add : xm_C := (0, 3, 1, pW_add, fW_add)
theorem vW_add : ∀ as M, pW_add as M → ∃ as1, as = .ref 3 :: as1 := by
  rintro as M ⟨s, r, rfl, hpre⟩
  exact ⟨_, rfl⟩
noncomputable def tW_add : List (Nat × xm_C) := []
theorem lW_add (l : Launch) : ∀ n C, (n, C) ∈ tW_add → xm_lkS l "AbsenceRows$Crews" xt_T xk_ns (xr_ 0) xk_cl xk_tA n C ∨ xm_lkV l "AbsenceRows$Crews" xt_T xk_ns (xr_ 0) xk_cl xk_tA n C := fun n C h => (show ∀ q ∈ tW_add, xm_lkS l "AbsenceRows$Crews" xt_T xk_ns (xr_ 0) xk_cl xk_tA q.1 q.2 ∨ xm_lkV l "AbsenceRows$Crews" xt_T xk_ns (xr_ 0) xk_cl xk_tA q.1 q.2 from fun _ h => absurd h List.not_mem_nil) (n, C) h
set_option maxRecDepth 20000 in
set_option maxHeartbeats 2000000 in
theorem cW_add (l : Launch) : xm_Wr l xy_W_add (Cond.code xy_W_add xb_W_add 3 (some .int) :: xt_T) (xr_ 0) xk_cl xk_ns xk_tA pW_add fW_add := by
  refine xm_mk_wr (rt := .int) (fl := xf_W) (ct := tW_add) (cn := []) (cj := []) (plainFor_of_name (by decide)) xs_W xd_W_add rfl (Or.inr rfl) (lW_add l) (fun _ _ _ _ _ _ _ _ => False) ?_ ?_ ?_ (fun _ _ _ _ _ _ _ _ _ h => h.elim) ?_
  · rintro as M ⟨s, r, rfl, hpre⟩; exact Nat.le_of_ble_eq_true rfl
  · rintro as M ⟨s, r, rfl, hpre⟩; simp [fW_add]
  · rintro as M v ⟨s, r, rfl, hpre⟩ h; first | rfl | (simp [fW_add] at h)
  · rintro as M ⟨s, r, rfl, hpre⟩
    refine ⟨400, (And.intro rfl (And.intro rfl (And.intro rfl (And.intro ?g1_i_9 (And.intro rfl (And.intro rfl (And.intro rfl (And.intro ?g2_i_19 (And.intro rfl (And.intro rfl (And.intro rfl (And.intro rfl (And.intro ?g3_w_36 ?g4_r_36)))))))))))))⟩
    case g1_i_9 =>
      exact hpre
    case g2_i_19 =>
      exact hpre
    case g3_w_36 =>
      first | rfl | exact xi_nb
    case g4_r_36 =>
      exact ⟨rfl, rfl⟩
def pK_add (as : List Value) (M : xm_M) : Prop := ∃ p k f t h : Int32, as = [.ref 4, .int p, .int k, .int f, .int t, .int h] ∧ vp_in (M 4 0) 80
noncomputable def fK_add (as : List Value) (M : xm_M) : Option Value × xm_M := match as with
  | [_, .int p, .int k, .int f, .int t, .int h] => (some (.int (M 4 0 + 1 - 1)), (xm_up (xm_up (xm_up (xm_up (xm_up (xm_up (xm_up (xm_up M 18 (M 4 0).toNatClampNeg p) 19 (M 4 0).toNatClampNeg k) 20 (M 4 0).toNatClampNeg f) 21 (M 4 0).toNatClampNeg t) 22 (M 4 0).toNatClampNeg h) 23 (M 4 0).toNatClampNeg (xi_x (k = 1) 2 0)) 24 (M 4 0).toNatClampNeg (-1)) 4 0 (M 4 0 + 1)))
  | _ => (none, M)
noncomputable abbrev sK_add : xm_C := (0, 6, 1, pK_add, fK_add)
theorem vK_add : ∀ as M, pK_add as M → ∃ as1, as = .ref 4 :: as1 := by
  rintro as M ⟨p, k, f, t, h, rfl, hpre⟩
  exact ⟨_, rfl⟩
noncomputable def tK_add : List (Nat × xm_C) := []
theorem lK_add (l : Launch) : ∀ n C, (n, C) ∈ tK_add → xm_lkS l "AbsenceRows$Asks" xt_T xk_ns (xr_ 0) xk_cl xk_tA n C ∨ xm_lkV l "AbsenceRows$Asks" xt_T xk_ns (xr_ 0) xk_cl xk_tA n C := fun n C h => (show ∀ q ∈ tK_add, xm_lkS l "AbsenceRows$Asks" xt_T xk_ns (xr_ 0) xk_cl xk_tA q.1 q.2 ∨ xm_lkV l "AbsenceRows$Asks" xt_T xk_ns (xr_ 0) xk_cl xk_tA q.1 q.2 from fun _ h => absurd h List.not_mem_nil) (n, C) h
set_option maxRecDepth 20000 in
set_option maxHeartbeats 2000000 in
theorem cK_add (l : Launch) : xm_Wr l xy_K_add (Cond.code xy_K_add xb_K_add 6 (some .int) :: xt_T) (xr_ 0) xk_cl xk_ns xk_tA pK_add fK_add := by
  refine xm_mk_wr (rt := .int) (fl := xf_K) (ct := tK_add) (cn := []) (cj := []) (plainFor_of_name (by decide)) xs_K xd_K_add rfl (Or.inr rfl) (lK_add l) (fun _ _ _ _ _ _ _ _ => False) ?_ ?_ ?_ (fun _ _ _ _ _ _ _ _ _ h => h.elim) ?_
  · rintro as M ⟨p, k, f, t, h, rfl, hpre⟩; exact Nat.le_of_ble_eq_true rfl
  · rintro as M ⟨p, k, f, t, h, rfl, hpre⟩; simp [fK_add]
  · rintro as M v ⟨p, k, f, t, h, rfl, hpre⟩ h; first | rfl | (simp [fK_add] at h)
  · rintro as M ⟨p, k, f, t, h, rfl, hpre⟩
    refine ⟨400, (And.intro rfl (And.intro rfl (And.intro rfl (And.intro ?g1_i_9 (And.intro rfl (And.intro rfl (And.intro rfl (And.intro ?g2_i_19 (And.intro rfl (And.intro rfl (And.intro rfl (And.intro ?g3_i_29 (And.intro rfl (And.intro rfl (And.intro rfl (And.intro ?g4_i_40 (And.intro rfl (And.intro rfl (And.intro rfl (And.intro ?g5_i_51 (And.intro rfl (And.intro rfl (And.intro (by decide) (And.intro (fun h62 => (And.intro rfl (And.intro ?g6_i_70 (And.intro rfl (And.intro rfl (And.intro rfl (And.intro ?g7_i_80 (And.intro rfl (And.intro rfl (And.intro rfl (And.intro rfl (And.intro ?g8_w_97 ?g9_r_97)))))))))))) (fun h62 => (And.intro (by decide) (And.intro rfl (And.intro ?g10_i_70 (And.intro rfl (And.intro rfl (And.intro rfl (And.intro ?g11_i_80 (And.intro rfl (And.intro rfl (And.intro rfl (And.intro rfl (And.intro ?g12_w_97 ?g13_r_97)))))))))))))))))))))))))))))))))))))⟩
    case g1_i_9 =>
      exact hpre
    case g2_i_19 =>
      exact hpre
    case g3_i_29 =>
      exact hpre
    case g4_i_40 =>
      exact hpre
    case g5_i_51 =>
      exact hpre
    case g6_i_70 =>
      exact hpre
    case g7_i_80 =>
      exact hpre
    case g8_w_97 =>
      first | rfl | exact xi_nb
    case g9_r_97 =>
      refine ⟨rfl, ?_⟩
      by_cases hz : k = 1
      · simp only [fK_add, xi_xt hz]
        first | rfl | exact absurd hz h62
      · simp only [fK_add, xi_xf hz]
        first | rfl | exact absurd h62 hz
    case g10_i_70 =>
      exact hpre
    case g11_i_80 =>
      exact hpre
    case g12_w_97 =>
      first | rfl | exact xi_nb
    case g13_r_97 =>
      refine ⟨rfl, ?_⟩
      by_cases hz : k = 1
      · simp only [fK_add, xi_xt hz]
        first | rfl | exact absurd hz h62
      · simp only [fK_add, xi_xf hz]
        first | rfl | exact absurd h62 hz
def pL_add (as : List Value) (M : xm_M) : Prop := ∃ w d : Int32, as = [.ref 6, .int w, .int d] ∧ vp_in (M 6 0) 60
noncomputable def fL_add (as : List Value) (M : xm_M) : Option Value × xm_M := match as with
  | [_, .int w, .int d] => (some (.int (M 6 0 + 1 - 1)), (xm_up (xm_up (xm_up (xm_up (xm_up (xm_up M 28 (M 6 0).toNatClampNeg w) 29 (M 6 0).toNatClampNeg d) 30 (M 6 0).toNatClampNeg 0) 31 (M 6 0).toNatClampNeg (-1)) 33 (M 6 0).toNatClampNeg (-1)) 6 0 (M 6 0 + 1)))
  | _ => (none, M)
noncomputable abbrev sL_add : xm_C := (0, 3, 1, pL_add, fL_add)
theorem vL_add : ∀ as M, pL_add as M → ∃ as1, as = .ref 6 :: as1 := by
  rintro as M ⟨w, d, rfl, hpre⟩
  exact ⟨_, rfl⟩
noncomputable def tL_add : List (Nat × xm_C) := []
theorem lL_add (l : Launch) : ∀ n C, (n, C) ∈ tL_add → xm_lkS l "AbsenceRows$Calls" xt_T xk_ns (xr_ 0) xk_cl xk_tA n C ∨ xm_lkV l "AbsenceRows$Calls" xt_T xk_ns (xr_ 0) xk_cl xk_tA n C := fun n C h => (show ∀ q ∈ tL_add, xm_lkS l "AbsenceRows$Calls" xt_T xk_ns (xr_ 0) xk_cl xk_tA q.1 q.2 ∨ xm_lkV l "AbsenceRows$Calls" xt_T xk_ns (xr_ 0) xk_cl xk_tA q.1 q.2 from fun _ h => absurd h List.not_mem_nil) (n, C) h
set_option maxRecDepth 20000 in
set_option maxHeartbeats 2000000 in
theorem cL_add (l : Launch) : xm_Wr l xy_L_add (Cond.code xy_L_add xb_L_add 3 (some .int) :: xt_T) (xr_ 0) xk_cl xk_ns xk_tA pL_add fL_add := by
  refine xm_mk_wr (rt := .int) (fl := xf_L) (ct := tL_add) (cn := []) (cj := []) (plainFor_of_name (by decide)) xs_L xd_L_add rfl (Or.inr rfl) (lL_add l) (fun _ _ _ _ _ _ _ _ => False) ?_ ?_ ?_ (fun _ _ _ _ _ _ _ _ _ h => h.elim) ?_
  · rintro as M ⟨w, d, rfl, hpre⟩; exact Nat.le_of_ble_eq_true rfl
  · rintro as M ⟨w, d, rfl, hpre⟩; simp [fL_add]
  · rintro as M v ⟨w, d, rfl, hpre⟩ h; first | rfl | (simp [fL_add] at h)
  · rintro as M ⟨w, d, rfl, hpre⟩
    refine ⟨400, (And.intro rfl (And.intro rfl (And.intro rfl (And.intro ?g1_i_9 (And.intro rfl (And.intro rfl (And.intro rfl (And.intro ?g2_i_19 (And.intro rfl (And.intro rfl (And.intro rfl (And.intro ?g3_i_29 (And.intro rfl (And.intro rfl (And.intro rfl (And.intro ?g4_i_39 (And.intro rfl (And.intro rfl (And.intro rfl (And.intro ?g5_i_49 (And.intro rfl (And.intro rfl (And.intro rfl (And.intro rfl (And.intro ?g6_w_66 ?g7_r_66)))))))))))))))))))))))))⟩
    case g1_i_9 =>
      exact hpre
    case g2_i_19 =>
      exact hpre
    case g3_i_29 =>
      exact hpre
    case g4_i_39 =>
      exact hpre
    case g5_i_49 =>
      exact hpre
    case g6_w_66 =>
      first | rfl | exact xi_nb
    case g7_r_66 =>
      exact ⟨rfl, rfl⟩
def pL_waitFor (as : List Value) (M : xm_M) : Prop := ∃ k n u : Int32, as = [.ref 6, .int k, .int n, .int u] ∧ vp_in k 60
noncomputable def fL_waitFor (as : List Value) (M : xm_M) : Option Value × xm_M := match as with
  | [_, .int k, .int n, .int u] => (none, (xm_up (xm_up (xm_up M 31 k.toNatClampNeg n) 32 k.toNatClampNeg (M 32 k.toNatClampNeg ||| (1 <<< (n &&& 31)))) 33 k.toNatClampNeg u))
  | _ => (none, M)
noncomputable abbrev sL_waitFor : xm_C := (0, 4, 1, pL_waitFor, fL_waitFor)
theorem vL_waitFor : ∀ as M, pL_waitFor as M → ∃ as1, as = .ref 6 :: as1 := by
  rintro as M ⟨k, n, u, rfl, hpre⟩
  exact ⟨_, rfl⟩
noncomputable def tL_waitFor : List (Nat × xm_C) := [(38, sA_only)]
theorem lL_waitFor (l : Launch) : ∀ n C, (n, C) ∈ tL_waitFor → xm_lkS l "AbsenceRows$Calls" xt_T xk_ns (xr_ 1) xk_cl xk_tA n C ∨ xm_lkV l "AbsenceRows$Calls" xt_T xk_ns (xr_ 1) xk_cl xk_tA n C := fun n C h => (show ∀ q ∈ tL_waitFor, xm_lkS l "AbsenceRows$Calls" xt_T xk_ns (xr_ 1) xk_cl xk_tA q.1 q.2 ∨ xm_lkV l "AbsenceRows$Calls" xt_T xk_ns (xr_ 1) xk_cl xk_tA q.1 q.2 from List.forall_mem_cons.mpr ⟨Or.inl ⟨xy_A_only, xb_A_only, 1, (some .int), xr_ 0, rfl, ⟨xe_A_only, xw_37, ⟨by decide, by decide, by decide +kernel⟩, ⟨Nat.le_of_ble_eq_true rfl, Nat.le_of_ble_eq_true rfl⟩, rfl, rfl⟩, xw_529, Or.inr ⟨"AbsenceRows", xn_13⟩, Or.inl ⟨rfl, uA_only, cA_only l⟩⟩, fun _ h => absurd h List.not_mem_nil⟩) (n, C) h
set_option maxRecDepth 20000 in
set_option maxHeartbeats 2000000 in
theorem cL_waitFor (l : Launch) : xm_Wr l xy_L_waitFor (Cond.code xy_L_waitFor xb_L_waitFor 4 none :: xt_T) (xr_ 1) xk_cl xk_ns xk_tA pL_waitFor fL_waitFor := by
  refine xm_mk_wr (rt := .int) (fl := xf_L) (ct := tL_waitFor) (cn := []) (cj := []) (plainFor_of_name (by decide)) xs_L xd_L_waitFor rfl (Or.inl rfl) (lL_waitFor l) (fun _ _ _ _ _ _ _ _ => False) ?_ ?_ ?_ (fun _ _ _ _ _ _ _ _ _ h => h.elim) ?_
  · rintro as M ⟨k, n, u, rfl, hpre⟩; exact Nat.le_of_ble_eq_true rfl
  · rintro as M ⟨k, n, u, rfl, hpre⟩; simp [fL_waitFor]
  · rintro as M v ⟨k, n, u, rfl, hpre⟩ h; first | rfl | (simp [fL_waitFor] at h)
  · rintro as M ⟨k, n, u, rfl, hpre⟩
    refine ⟨400, (And.intro rfl (And.intro rfl (And.intro ?g1_i_6 (And.intro rfl (And.intro rfl (And.intro ?g2_i_13 (And.intro rfl (And.intro (Nat.le_of_ble_eq_true rfl) (And.intro (Nat.le_of_ble_eq_true rfl) (And.intro ?g3_c_15 (And.intro rfl (And.intro ?g4_i_19 (And.intro rfl (And.intro rfl (And.intro ?g5_i_26 ?g6_r_27)))))))))))))))⟩
    case g1_i_6 =>
      exact hpre
    case g2_i_13 =>
      exact hpre
    case g3_c_15 =>
      exact ⟨_, rfl⟩
    case g4_i_19 =>
      exact hpre
    case g5_i_26 =>
      exact hpre
    case g6_r_27 =>
      exact ⟨rfl, rfl⟩
def pL_fill (as : List Value) (M : xm_M) : Prop := ∃ k : Int32, as = [.ref 6, .int k] ∧ vp_in k 60
noncomputable def fL_fill (as : List Value) (M : xm_M) : Option Value × xm_M := match as with
  | [_, .int k] => (none, (xm_up (xm_up M 30 k.toNatClampNeg 1) 33 k.toNatClampNeg (-1)))
  | _ => (none, M)
noncomputable abbrev sL_fill : xm_C := (0, 2, 1, pL_fill, fL_fill)
theorem vL_fill : ∀ as M, pL_fill as M → ∃ as1, as = .ref 6 :: as1 := by
  rintro as M ⟨k, rfl, hpre⟩
  exact ⟨_, rfl⟩
noncomputable def tL_fill : List (Nat × xm_C) := []
theorem lL_fill (l : Launch) : ∀ n C, (n, C) ∈ tL_fill → xm_lkS l "AbsenceRows$Calls" xt_T xk_ns (xr_ 0) xk_cl xk_tA n C ∨ xm_lkV l "AbsenceRows$Calls" xt_T xk_ns (xr_ 0) xk_cl xk_tA n C := fun n C h => (show ∀ q ∈ tL_fill, xm_lkS l "AbsenceRows$Calls" xt_T xk_ns (xr_ 0) xk_cl xk_tA q.1 q.2 ∨ xm_lkV l "AbsenceRows$Calls" xt_T xk_ns (xr_ 0) xk_cl xk_tA q.1 q.2 from fun _ h => absurd h List.not_mem_nil) (n, C) h
set_option maxRecDepth 20000 in
set_option maxHeartbeats 2000000 in
theorem cL_fill (l : Launch) : xm_Wr l xy_L_fill (Cond.code xy_L_fill xb_L_fill 2 none :: xt_T) (xr_ 0) xk_cl xk_ns xk_tA pL_fill fL_fill := by
  refine xm_mk_wr (rt := .int) (fl := xf_L) (ct := tL_fill) (cn := []) (cj := []) (plainFor_of_name (by decide)) xs_L xd_L_fill rfl (Or.inl rfl) (lL_fill l) (fun _ _ _ _ _ _ _ _ => False) ?_ ?_ ?_ (fun _ _ _ _ _ _ _ _ _ h => h.elim) ?_
  · rintro as M ⟨k, rfl, hpre⟩; exact Nat.le_of_ble_eq_true rfl
  · rintro as M ⟨k, rfl, hpre⟩; simp [fL_fill]
  · rintro as M v ⟨k, rfl, hpre⟩ h; first | rfl | (simp [fL_fill] at h)
  · rintro as M ⟨k, rfl, hpre⟩
    refine ⟨400, (And.intro rfl (And.intro rfl (And.intro ?g1_i_6 (And.intro rfl (And.intro rfl (And.intro ?g2_i_13 ?g3_r_14))))))⟩
    case g1_i_6 =>
      exact hpre
    case g2_i_13 =>
      exact hpre
    case g3_r_14 =>
      exact ⟨rfl, rfl⟩
def pL_fail (as : List Value) (M : xm_M) : Prop := ∃ k : Int32, as = [.ref 6, .int k] ∧ vp_in k 60
noncomputable def fL_fail (as : List Value) (M : xm_M) : Option Value × xm_M := match as with
  | [_, .int k] => (none, xm_fl M k)
  | _ => (none, M)
noncomputable abbrev sL_fail : xm_C := (0, 2, 1, pL_fail, fL_fail)
theorem vL_fail : ∀ as M, pL_fail as M → ∃ as1, as = .ref 6 :: as1 := by
  rintro as M ⟨k, rfl, hpre⟩
  exact ⟨_, rfl⟩
noncomputable def tL_fail : List (Nat × xm_C) := []
theorem lL_fail (l : Launch) : ∀ n C, (n, C) ∈ tL_fail → xm_lkS l "AbsenceRows$Calls" xt_T xk_ns (xr_ 0) xk_cl xk_tA n C ∨ xm_lkV l "AbsenceRows$Calls" xt_T xk_ns (xr_ 0) xk_cl xk_tA n C := fun n C h => (show ∀ q ∈ tL_fail, xm_lkS l "AbsenceRows$Calls" xt_T xk_ns (xr_ 0) xk_cl xk_tA q.1 q.2 ∨ xm_lkV l "AbsenceRows$Calls" xt_T xk_ns (xr_ 0) xk_cl xk_tA q.1 q.2 from fun _ h => absurd h List.not_mem_nil) (n, C) h
set_option maxRecDepth 20000 in
set_option maxHeartbeats 2000000 in
theorem cL_fail (l : Launch) : xm_Wr l xy_L_fail (Cond.code xy_L_fail xb_L_fail 2 none :: xt_T) (xr_ 0) xk_cl xk_ns xk_tA pL_fail fL_fail := by
  refine xm_mk_wr (rt := .int) (fl := xf_L) (ct := tL_fail) (cn := []) (cj := []) (plainFor_of_name (by decide)) xs_L xd_L_fail rfl (Or.inl rfl) (lL_fail l) (fun _ _ _ _ _ _ _ _ => False) ?_ ?_ ?_ (fun _ _ _ _ _ _ _ _ _ h => h.elim) ?_
  · rintro as M ⟨k, rfl, hpre⟩; exact Nat.le_of_ble_eq_true rfl
  · rintro as M ⟨k, rfl, hpre⟩; simp [fL_fail]
  · rintro as M v ⟨k, rfl, hpre⟩ h; first | rfl | (simp [fL_fail] at h)
  · rintro as M ⟨k, rfl, hpre⟩
    refine ⟨400, (And.intro rfl (And.intro rfl (And.intro ?g1_i_6 (And.intro rfl (And.intro rfl (And.intro ?g2_i_13 (And.intro rfl (And.intro rfl (And.intro ?g3_i_20 ?g4_r_21)))))))))⟩
    case g1_i_6 =>
      exact hpre
    case g2_i_13 =>
      exact hpre
    case g3_i_20 =>
      exact hpre
    case g4_r_21 =>
      exact ⟨rfl, rfl⟩
def pK_makeFirstStep (as : List Value) (M : xm_M) : Prop := ∃ a w : Int32, as = [.ref 4, .int a, .int w] ∧ vp_in a 80
noncomputable def fK_makeFirstStep (as : List Value) (M : xm_M) : Option Value × xm_M := match as with
  | [_, .int a, .int w] => (none, (xm_up (xm_up M 24 a.toNatClampNeg w) 23 a.toNatClampNeg 1))
  | _ => (none, M)
noncomputable abbrev sK_makeFirstStep : xm_C := (0, 3, 1, pK_makeFirstStep, fK_makeFirstStep)
theorem vK_makeFirstStep : ∀ as M, pK_makeFirstStep as M → ∃ as1, as = .ref 4 :: as1 := by
  rintro as M ⟨a, w, rfl, hpre⟩
  exact ⟨_, rfl⟩
noncomputable def tK_makeFirstStep : List (Nat × xm_C) := []
theorem lK_makeFirstStep (l : Launch) : ∀ n C, (n, C) ∈ tK_makeFirstStep → xm_lkS l "AbsenceRows$Asks" xt_T xk_ns (xr_ 0) xk_cl xk_tA n C ∨ xm_lkV l "AbsenceRows$Asks" xt_T xk_ns (xr_ 0) xk_cl xk_tA n C := fun n C h => (show ∀ q ∈ tK_makeFirstStep, xm_lkS l "AbsenceRows$Asks" xt_T xk_ns (xr_ 0) xk_cl xk_tA q.1 q.2 ∨ xm_lkV l "AbsenceRows$Asks" xt_T xk_ns (xr_ 0) xk_cl xk_tA q.1 q.2 from fun _ h => absurd h List.not_mem_nil) (n, C) h
set_option maxRecDepth 20000 in
set_option maxHeartbeats 2000000 in
theorem cK_makeFirstStep (l : Launch) : xm_Wr l xy_K_makeFirstStep (Cond.code xy_K_makeFirstStep xb_K_makeFirstStep 3 none :: xt_T) (xr_ 0) xk_cl xk_ns xk_tA pK_makeFirstStep fK_makeFirstStep := by
  refine xm_mk_wr (rt := .int) (fl := xf_K) (ct := tK_makeFirstStep) (cn := []) (cj := []) (plainFor_of_name (by decide)) xs_K xd_K_makeFirstStep rfl (Or.inl rfl) (lK_makeFirstStep l) (fun _ _ _ _ _ _ _ _ => False) ?_ ?_ ?_ (fun _ _ _ _ _ _ _ _ _ h => h.elim) ?_
  · rintro as M ⟨a, w, rfl, hpre⟩; exact Nat.le_of_ble_eq_true rfl
  · rintro as M ⟨a, w, rfl, hpre⟩; simp [fK_makeFirstStep]
  · rintro as M v ⟨a, w, rfl, hpre⟩ h; first | rfl | (simp [fK_makeFirstStep] at h)
  · rintro as M ⟨a, w, rfl, hpre⟩
    refine ⟨400, (And.intro rfl (And.intro rfl (And.intro ?g1_i_6 (And.intro rfl (And.intro rfl (And.intro ?g2_i_13 ?g3_r_14))))))⟩
    case g1_i_6 =>
      exact hpre
    case g2_i_13 =>
      exact hpre
    case g3_r_14 =>
      exact ⟨rfl, rfl⟩
def pK_makeLastStep (as : List Value) (M : xm_M) : Prop := ∃ a w : Int32, as = [.ref 4, .int a, .int w] ∧ vp_in a 80
noncomputable def fK_makeLastStep (as : List Value) (M : xm_M) : Option Value × xm_M := match as with
  | [_, .int a, .int w] => (none, xm_up (xm_up M 24 a.toNatClampNeg (xi_x (M 24 a.toNatClampNeg = -1) w (M 24 a.toNatClampNeg))) 23 a.toNatClampNeg 2)
  | _ => (none, M)
noncomputable abbrev sK_makeLastStep : xm_C := (0, 3, 1, pK_makeLastStep, fK_makeLastStep)
theorem vK_makeLastStep : ∀ as M, pK_makeLastStep as M → ∃ as1, as = .ref 4 :: as1 := by
  rintro as M ⟨a, w, rfl, hpre⟩
  exact ⟨_, rfl⟩
noncomputable def tK_makeLastStep : List (Nat × xm_C) := []
theorem lK_makeLastStep (l : Launch) : ∀ n C, (n, C) ∈ tK_makeLastStep → xm_lkS l "AbsenceRows$Asks" xt_T xk_ns (xr_ 0) xk_cl xk_tA n C ∨ xm_lkV l "AbsenceRows$Asks" xt_T xk_ns (xr_ 0) xk_cl xk_tA n C := fun n C h => (show ∀ q ∈ tK_makeLastStep, xm_lkS l "AbsenceRows$Asks" xt_T xk_ns (xr_ 0) xk_cl xk_tA q.1 q.2 ∨ xm_lkV l "AbsenceRows$Asks" xt_T xk_ns (xr_ 0) xk_cl xk_tA q.1 q.2 from fun _ h => absurd h List.not_mem_nil) (n, C) h
set_option maxRecDepth 20000 in
set_option maxHeartbeats 2000000 in
theorem cK_makeLastStep (l : Launch) : xm_Wr l xy_K_makeLastStep (Cond.code xy_K_makeLastStep xb_K_makeLastStep 3 none :: xt_T) (xr_ 0) xk_cl xk_ns xk_tA pK_makeLastStep fK_makeLastStep := by
  refine xm_mk_wr (rt := .int) (fl := xf_K) (ct := tK_makeLastStep) (cn := []) (cj := []) (plainFor_of_name (by decide)) xs_K xd_K_makeLastStep rfl (Or.inl rfl) (lK_makeLastStep l) (fun _ _ _ _ _ _ _ _ => False) ?_ ?_ ?_ (fun _ _ _ _ _ _ _ _ _ h => h.elim) ?_
  · rintro as M ⟨a, w, rfl, hpre⟩; exact Nat.le_of_ble_eq_true rfl
  · rintro as M ⟨a, w, rfl, hpre⟩; simp [fK_makeLastStep]
  · rintro as M v ⟨a, w, rfl, hpre⟩ h; first | rfl | (simp [fK_makeLastStep] at h)
  · rintro as M ⟨a, w, rfl, hpre⟩
    refine ⟨400, (And.intro rfl (And.intro rfl (And.intro ?g1_i_5 (And.intro (by decide) (And.intro (fun h7 => (And.intro rfl (And.intro rfl (And.intro ?g2_i_23 ?g3_r_24)))) (fun h7 => (And.intro rfl (And.intro rfl (And.intro ?g4_i_16 (And.intro rfl (And.intro rfl (And.intro ?g5_i_23 ?g6_r_24))))))))))))⟩
    case g1_i_5 =>
      exact hpre
    case g2_i_23 =>
      exact hpre
    case g3_r_24 =>
      refine ⟨rfl, ?_⟩
      by_cases hz : M 24 a.toNatClampNeg = -1
      · simp only [fK_makeLastStep, xi_xt hz]
        first | rfl | exact absurd hz h7
      · simp only [fK_makeLastStep, xi_xf hz]
        first | exact absurd h7 hz | rw [xm_up_id]; rfl
    case g4_i_16 =>
      exact hpre
    case g5_i_23 =>
      exact hpre
    case g6_r_24 =>
      refine ⟨rfl, ?_⟩
      by_cases hz : M 24 a.toNatClampNeg = -1
      · simp only [fK_makeLastStep, xi_xt hz]
        first | rfl | exact absurd hz h7
      · simp only [fK_makeLastStep, xi_xf hz]
        first | exact absurd h7 hz | rw [xm_up_id]; rfl
def pH_keep (as : List Value) (M : xm_M) : Prop := ∃ a d w : Int32, as = [.ref 5, .int a, .int d, .int w] ∧ (M 5 0 < 100 → vp_in (M 5 0) 100)
noncomputable def fH_keep (as : List Value) (M : xm_M) : Option Value × xm_M := match as with
  | [_, .int a, .int d, .int w] => (none, (@ite xm_M (M 5 0 < 100) (Classical.propDecidable _) (xm_up (xm_up (xm_up (xm_up M 25 (M 5 0).toNatClampNeg a) 26 (M 5 0).toNatClampNeg d) 27 (M 5 0).toNatClampNeg w) 5 0 (M 5 0 + 1)) M))
  | _ => (none, M)
noncomputable abbrev sH_keep : xm_C := (0, 4, 1, pH_keep, fH_keep)
theorem vH_keep : ∀ as M, pH_keep as M → ∃ as1, as = .ref 5 :: as1 := by
  rintro as M ⟨a, d, w, rfl, hpre⟩
  exact ⟨_, rfl⟩
noncomputable def tH_keep : List (Nat × xm_C) := []
theorem lH_keep (l : Launch) : ∀ n C, (n, C) ∈ tH_keep → xm_lkS l "AbsenceRows$HeldRows" xt_T xk_ns (xr_ 0) xk_cl xk_tA n C ∨ xm_lkV l "AbsenceRows$HeldRows" xt_T xk_ns (xr_ 0) xk_cl xk_tA n C := fun n C h => (show ∀ q ∈ tH_keep, xm_lkS l "AbsenceRows$HeldRows" xt_T xk_ns (xr_ 0) xk_cl xk_tA q.1 q.2 ∨ xm_lkV l "AbsenceRows$HeldRows" xt_T xk_ns (xr_ 0) xk_cl xk_tA q.1 q.2 from fun _ h => absurd h List.not_mem_nil) (n, C) h
set_option maxRecDepth 20000 in
set_option maxHeartbeats 2000000 in
theorem cH_keep (l : Launch) : xm_Wr l xy_H_keep (Cond.code xy_H_keep xb_H_keep 4 none :: xt_T) (xr_ 0) xk_cl xk_ns xk_tA pH_keep fH_keep := by
  refine xm_mk_wr (rt := .int) (fl := xf_H) (ct := tH_keep) (cn := []) (cj := []) (plainFor_of_name (by decide)) xs_H xd_H_keep rfl (Or.inl rfl) (lH_keep l) (fun _ _ _ _ _ _ _ _ => False) ?_ ?_ ?_ (fun _ _ _ _ _ _ _ _ _ h => h.elim) ?_
  · rintro as M ⟨a, d, w, rfl, hpre⟩; exact Nat.le_of_ble_eq_true rfl
  · rintro as M ⟨a, d, w, rfl, hpre⟩; simp [fH_keep]
  · rintro as M v ⟨a, d, w, rfl, hpre⟩ h; first | rfl | (simp [fH_keep] at h)
  · rintro as M ⟨a, d, w, rfl, hpre⟩
    refine ⟨400, (And.intro rfl (And.intro (by decide) (And.intro (fun h6 => ?g1_r_49) (fun h6 => (And.intro rfl (And.intro rfl (And.intro rfl (And.intro ?g2_i_18 (And.intro rfl (And.intro rfl (And.intro rfl (And.intro ?g3_i_28 (And.intro rfl (And.intro rfl (And.intro rfl (And.intro ?g4_i_38 (And.intro rfl (And.intro rfl (And.intro rfl ?g5_r_49)))))))))))))))))))⟩
    case g1_r_49 =>
      refine ⟨rfl, ?_⟩
      by_cases hz : M 5 0 < 100
      · simp only [fH_keep, if_pos hz]
        all_goals first | rfl | exact absurd h6 (Int32.not_le.mpr hz)
      · simp only [fH_keep, if_neg hz]
        all_goals first | rfl | exact absurd (Int32.not_le.mp h6) hz
    case g2_i_18 =>
      exact hpre (Int32.not_le.mp h6)
    case g3_i_28 =>
      exact hpre (Int32.not_le.mp h6)
    case g4_i_38 =>
      exact hpre (Int32.not_le.mp h6)
    case g5_r_49 =>
      refine ⟨rfl, ?_⟩
      by_cases hz : M 5 0 < 100
      · simp only [fH_keep, if_pos hz]
        all_goals first | rfl | exact absurd h6 (Int32.not_le.mpr hz)
      · simp only [fH_keep, if_neg hz]
        all_goals first | rfl | exact absurd (Int32.not_le.mp h6) hz
def pA_askNext (as : List Value) (M : xm_M) : Prop := ∃ k : Int32, as = [.ref 0, .int k] ∧ vp_in k 60 ∧ vp_in (M 28 k.toNatClampNeg) 6 ∧ xv_C M
noncomputable def fA_askNext (as : List Value) (M : xm_M) : Option Value × xm_M := match as with
  | [_, .int k] => (none, xm_nx M k)
  | _ => (none, M)
noncomputable abbrev sA_askNext : xm_C := (0, 2, 1, pA_askNext, fA_askNext)
theorem vA_askNext : ∀ as M, pA_askNext as M → ∃ as1, as = .ref 0 :: as1 := by
  rintro as M ⟨k, rfl, ⟨hk1, hk2, hC⟩⟩
  exact ⟨_, rfl⟩
noncomputable def tA_askNext : List (Nat × xm_C) := [(372, sA_nextToAsk), (375, sL_fail), (378, sL_waitFor)]
theorem lA_askNext (l : Launch) : ∀ n C, (n, C) ∈ tA_askNext → xm_lkS l "AbsenceRows" xt_T xk_ns (xr_ 4) xk_cl xk_tA n C ∨ xm_lkV l "AbsenceRows" xt_T xk_ns (xr_ 4) xk_cl xk_tA n C := fun n C h => (show ∀ q ∈ tA_askNext, xm_lkS l "AbsenceRows" xt_T xk_ns (xr_ 4) xk_cl xk_tA q.1 q.2 ∨ xm_lkV l "AbsenceRows" xt_T xk_ns (xr_ 4) xk_cl xk_tA q.1 q.2 from List.forall_mem_cons.mpr ⟨Or.inr ⟨xy_A_nextToAsk, xb_A_nextToAsk, 7, (some .int), xr_ 3, 1, 0, 0, [some 1, some 2, some 3, some 4, some 5, some 6, none, none, none], xk_T0, 9, rfl, rfl, ⟨xe_A_nextToAsk, xw_37, ⟨by decide, by decide, by decide +kernel⟩, ⟨Nat.le_of_ble_eq_true rfl, Nat.le_of_ble_eq_true rfl⟩, rfl, rfl⟩, xw_729, xw_731, xw_13, rfl, rfl, vA_nextToAsk, Or.inl ⟨rfl, uA_nextToAsk, cA_nextToAsk l⟩⟩, List.forall_mem_cons.mpr ⟨Or.inr ⟨xy_L_fail, xb_L_fail, 2, none, xr_ 0, 1, 6, 6, [none, some 28, some 29, some 30, some 31, some 32, some 33], xk_T6, 7, rfl, rfl, ⟨xe_L_fail, xw_43, ⟨by decide, by decide, by decide +kernel⟩, ⟨Nat.le_of_ble_eq_true rfl, Nat.le_of_ble_eq_true rfl⟩, rfl, rfl⟩, xw_745, xw_746, xw_747, rfl, rfl, vL_fail, Or.inr ⟨rfl, cL_fail l⟩⟩, List.forall_mem_cons.mpr ⟨Or.inr ⟨xy_L_waitFor, xb_L_waitFor, 4, none, xr_ 1, 3, 6, 6, [none, some 28, some 29, some 30, some 31, some 32, some 33], xk_T6, 7, rfl, rfl, ⟨xe_L_waitFor, xw_43, ⟨by decide, by decide, by decide +kernel⟩, ⟨Nat.le_of_ble_eq_true rfl, Nat.le_of_ble_eq_true rfl⟩, rfl, rfl⟩, xw_749, xw_750, xw_751, rfl, rfl, vL_waitFor, Or.inr ⟨rfl, cL_waitFor l⟩⟩, fun _ h => absurd h List.not_mem_nil⟩⟩⟩) (n, C) h
set_option maxRecDepth 20000 in
set_option maxHeartbeats 2000000 in
theorem cA_askNext (l : Launch) : xm_Wr l xy_A_askNext (Cond.code xy_A_askNext xb_A_askNext 3 none :: xt_T) (xr_ 4) xk_cl xk_ns xk_tA pA_askNext fA_askNext := by
  refine xm_mk_wr (rt := .int) (fl := xf_A) (ct := tA_askNext) (cn := []) (cj := []) (plainFor_of_name (by decide)) xs_A xd_A_askNext rfl (Or.inl rfl) (lA_askNext l) (fun _ _ _ _ _ _ _ _ => False) ?_ ?_ ?_ (fun _ _ _ _ _ _ _ _ _ h => h.elim) ?_
  · rintro as M ⟨k, rfl, ⟨hk1, hk2, hC⟩⟩; exact Nat.le_of_ble_eq_true rfl
  · rintro as M ⟨k, rfl, ⟨hk1, hk2, hC⟩⟩; simp [fA_askNext]
  · rintro as M v ⟨k, rfl, ⟨hk1, hk2, hC⟩⟩ h; first | rfl | (simp [fA_askNext] at h)
  · rintro as M ⟨k, rfl, ⟨hk1, hk2, hC⟩⟩
    refine ⟨400, (And.intro rfl (And.intro (Nat.le_of_ble_eq_true rfl) (And.intro (Nat.le_of_ble_eq_true rfl) (And.intro ?g1_c_2 (And.intro (Nat.le_of_ble_eq_true rfl) (And.intro (by decide) (And.intro (fun h8 => (And.intro rfl (And.intro rfl (And.intro rfl (And.intro ?g2_i_31 (And.intro rfl (And.intro ?g3_i_34 (And.intro rfl (And.intro rfl (And.intro rfl (And.intro rfl (And.intro (Nat.le_of_ble_eq_true rfl) (And.intro (Nat.le_of_ble_eq_true rfl) (And.intro ?g4_c_50 ?g5_r_53)))))))))))))) (fun h8 => (And.intro rfl (And.intro rfl (And.intro (Nat.le_of_ble_eq_true rfl) (And.intro (Nat.le_of_ble_eq_true rfl) (And.intro ?g6_c_16 (And.intro (by decide) ?g7_r_53))))))))))))))⟩
    case g1_c_2 =>
      exact ⟨_, rfl, hk1, hk2, hC⟩
    case g2_i_31 =>
      exact xd_nx_in hC.1 h8
    case g3_i_34 =>
      exact xd_nx_in hC.1 h8
    case g4_c_50 =>
      exact ⟨_, _, _, rfl, hk1⟩
    case g5_r_53 =>
      refine ⟨rfl, ?_⟩
      by_cases hz : xd_nx M k = -1
      · simp only [fA_askNext, xm_nx, if_pos hz]
        first | rfl | exact absurd hz h8
      · simp only [fA_askNext, xm_nx, if_neg hz]
        first | rfl | exact absurd h8 hz
    case g6_c_16 =>
      exact ⟨_, rfl, hk1⟩
    case g7_r_53 =>
      refine ⟨rfl, ?_⟩
      by_cases hz : xd_nx M k = -1
      · simp only [fA_askNext, xm_nx, if_pos hz]
        first | rfl | exact absurd hz h8
      · simp only [fA_askNext, xm_nx, if_neg hz]
        first | rfl | exact absurd h8 hz
end
section
/-! METHODS THAT RETURN OR THROW, over the small machine -/
def xm_sr (own : String) (ss : List (Nat × String)) (U : State) : Prop := ∀ q ∈ ss, ∃ a, vk_R own q.1 q.2 a U
theorem xm_sr.warm {own : String} {ss : List (Nat × String)} {s U : State} (hW : s.WarmedH U.vm) (h : xm_sr own ss s) : xm_sr own ss U := fun q hq => by
  obtain ⟨a, ha⟩ := h q hq
  exact ⟨a, vk_R.warm hW ha⟩
theorem xm_sr.same {own : String} {ss : List (Nat × String)} {s U : State} (e : U.vm = s.vm) (h : xm_sr own ss s) : xm_sr own ss U := fun q hq => by
  obtain ⟨a, ha⟩ := h q hq
  exact ⟨a, vk_R.same e ha⟩
/-- the two statics that a throw reads, apart from A -/
def xm_zq (A : Nat → Prop) (U : State) (H : Heap) : Prop := vx_Zq Bundle.tN "UNASSIGNED_STACK" Bundle.steD A U H ∧ vx_Zq Bundle.tN "SUPPRESSED_SENTINEL" Bundle.listD A U H
abbrev xm_pt (own : String) (ss : List (Nat × String)) (cls : List vw_C) (ns : List Cond) (tp : List xm_E) (dC : Nat → ClassId) (dI : Nat → Nat → Nat) (dA ad : Nat → Nat) (as : List Value) (M : xm_M) : Array Value → State → Prop := va_Pc (as.map (xm_v ad)) (fun U => va_P (dC, dI) cls (xm_W ad dA tp M) U.heap ∧ va_K (dC, dI) cls (xm_tys dA) U ∧ xm_Nw ns U ∧ xm_sr own ss U ∧ xm_zq (xm_A ad tp.length) U U.heap)
theorem xm_ptb {own : String} {ss : List (Nat × String)} {cls : List vw_C} {ns : List Cond} (hn : ∀ w ∈ ns, xm_isN w = true) {tp : List xm_E} {dC : Nat → ClassId} {dI : Nat → Nat → Nat} {dA ad : Nat → Nat} {as : List Value} {M : xm_M} : FrameBlind (xm_pt own ss cls ns tp dC dI dA ad as M) := by
  intro a U g mk q
  obtain ⟨q0, qP, qK, qN, qS, qZ⟩ := q
  exact ⟨q0, qP, va_K.moved (u := U) (U := U.calling g mk a) (Vm.Alike.refl U.vm) qK, xm_Nw.same (s := U) (U := U.calling g mk a) hn rfl qN, xm_sr.same (s := U) (U := U.calling g mk a) rfl qS, vx_Zq.moved (u := U) (U := U.calling g mk a) (Vm.Alike.refl U.vm) qZ.1, vx_Zq.moved (u := U) (U := U.calling g mk a) (Vm.Alike.refl U.vm) qZ.2⟩
/-- its contract: ft says whether it throws, and what -/
def xm_Th (l : Launch) (y : MethodName) (ws : List Cond) (rm : Room) (own : String) (ss : List (Nat × String)) (cls : List vw_C) (ns : List Cond) (tp : List xm_E) (pre : List Value → xm_M → Prop) (fn : List Value → xm_M → Option Value × xm_M) (ft : List Value → xm_M → Option String) : Prop :=
  ∀ (dC : Nat → ClassId) (dI : Nat → Nat → Nat) (dA ad : Nat → Nat) (as : List Value) (M : xm_M), pre as M → xm_inj ad tp.length → vx_Met l y ws rm (xm_pt own ss cls ns tp dC dI dA ad as M)
    (fun _ st o t => ft as M = none ∧ o = .returned ((fn as M).1.map (xm_v ad)) ∧ va_P (dC, dI) cls (xm_W ad dA tp (fn as M).2) t.heap ∧ va_F (xm_A ad tp.length) st t)
    (fun E st t => ft as M = some E ∧ va_P (dC, dI) cls (xm_W ad dA tp M) t.heap ∧ va_F (xm_A ad tp.length) st t) 1 6 (xm_A ad tp.length)
def xm_nms : List String := ["java/lang/RuntimeException", "java/lang/Exception"]
/-- a throw: the class's entry, the text's, the constructor's, whether the text's is wide, the class, the text -/
abbrev xm_Q : Type := Nat × Nat × Nat × Bool × String × String
def xm_thr (own : String) (Ts ns : List Cond) (ss : List (Nat × String)) (cc : ByteArray) (pc : Nat) (q : xm_Q) : Prop :=
  (decode cc pc = .ok (.new q.1, 3) ∧ decode cc (pc + 3) = .ok (.dup, 1) ∧ (bif q.2.2.2.1 then decode cc (pc + 4) = .ok (.ldc_w q.2.1, 3) ∧ decode cc (pc + 7) = .ok (.invokespecial q.2.2.1, 3) ∧ decode cc (pc + 10) = .ok (.athrow, 1) else decode cc (pc + 4) = .ok (.ldc q.2.1, 2) ∧ decode cc (pc + 6) = .ok (.invokespecial q.2.2.1, 3) ∧ decode cc (pc + 9) = .ok (.athrow, 1))) ∧
  Bundle.fit q.2.2.2.2.1 = true ∧ Cond.classLink own q.1 q.2.2.2.2.1 ∈ Ts ∧ Cond.initialized q.2.2.2.2.1 ∈ Ts ∧ (∀ w ∈ vx_atS own q.2.2.1 q.2.2.2.2.1 xm_nms, w ∈ Ts ∨ w ∈ ns) ∧ (∀ w ∈ Cond.classLink own q.1 q.2.2.2.2.1 :: Cond.initialized q.2.2.2.2.1 :: vx_atS own q.2.2.1 q.2.2.2.2.1 xm_nms, vx_ot w = true) ∧ (q.2.1, q.2.2.2.2.2) ∈ ss
section XMT
variable {l : Launch} {y : MethodName} {cc : ByteArray} {maxL : Nat} {ret : Option FieldType} {rt : FieldType} {Ts ns : List Cond} {cls : List vw_C} {tp : List xm_E} {fl : List (Nat × Nat × Nat)} {ct : List (Nat × xm_C)} {cn : List (Nat × Int32)} {cj : List (Nat × Int64)} {pr : xm_P} {rm : Room} {ss : List (Nat × String)} {tt : List (Nat × xm_Q)}
theorem xm_mk_th (hl : l.stackTraces = false) (hy : plainName y.cls = true) (hst : xm_stt y.cls Ts ns cls tp fl cn cj) (hch : xm_chb cc pr = true) (h0 : xm_hd1 pr = some 0) (hret : ret = none ∨ ret = some rt) (hct : ∀ n C, (n, C) ∈ ct → xm_lkS l y.cls Ts ns rm cls tp n C ∨ xm_lkV l y.cls Ts ns rm cls tp n C)
    (htt : ∀ q ∈ tt, xm_thr y.cls Ts ns ss cc q.1 q.2) (hrm : 6 ≤ rm.frames ∧ 100 ≤ rm.locals ∧ rm.cells = 1 ∧ rm.slots = 6)
    {pre : List Value → xm_M → Prop} {fn : List Value → xm_M → Option Value × xm_M} {ft : List Value → xm_M → Option String}
    (Kn : List Value → xm_M → Nat → Nat → List (Nat × Value) → List Value → xm_M → Nat → Prop) (hargs : ∀ as M, pre as M → (lg_sl as).length ≤ maxL)
    (hsome : ∀ as M, pre as M → ((fn as M).1 = none ↔ ret = none)) (hlong : ∀ as M v, pre as M → some (Value.long v) = (fn as M).1 → False)
    (hlp : ∀ as M, pre as M → ∀ j pc ls st M' cl, Kn as M j pc ls st M' cl → ∃ n, xm_w 0 (fun _ => 0) pr fl ct cn cj tp rt maxL (fun r M2 _ => ft as M = none ∧ r = (fn as M).1 ∧ M2 = (fn as M).2) (fun pc _ _ cl => cl = 0 ∧ ∃ q, xm_lk tt pc = some q ∧ ft as M = some q.2.2.2.2.1) (fun pc ls st M' cl => ∃ i, i < j ∧ Kn as M i pc ls st M' cl) n false (xm_at pr pc) ls st M' cl)
    (hvc : ∀ as M, pre as M → ∃ n, xm_w 0 (fun _ => 0) pr fl ct cn cj tp rt maxL (fun r M2 _ => ft as M = none ∧ r = (fn as M).1 ∧ M2 = (fn as M).2) (fun pc _ _ cl => cl = 0 ∧ ∃ q, xm_lk tt pc = some q ∧ ft as M = some q.2.2.2.2.1) (fun pc ls st M' cl => ∃ i, Kn as M i pc ls st M' cl) n false pr (lv_args 0 as) [] M 0) :
    xm_Th l y (Cond.code y cc maxL ret :: Ts) rm y.cls ss cls ns tp pre fn ft := by
  intro dC dI dA ad as M hpre hj
  refine vx_ofW (cc := cc) (maxL := maxL) (ret := ret) hy rfl ?_
  intro p e s m args below meth c s₁ B hml htab hv
  obtain ⟨rfl, hP, hK, hN, hSr, hZ⟩ := hv
  have hx := B.exec
  have hb := B.bytes
  have hr := B.returns
  have hts0 := atoms_spec (ws := Cond.code y cc maxL ret :: Ts) B.pre
  have hts : ∀ w ∈ Ts, w.before (as.map (xm_v ad)).toArray s = true := fun w h => hts0 w (List.mem_cons_of_mem _ h)
  have hown : s.vm.findClass y.cls = some m.cls := findClass_of_methodNamed B.named
  have hlocks := B.notSynchronized
  refine xm_body (rm := rm) hst hch h0 hct hx hb hml hown hts hK hN hj (Qr := fun r M2 _ => ft as M = none ∧ r = (fn as M).1 ∧ M2 = (fn as M).2) (Qt := fun pc _ _ cl => cl = 0 ∧ ∃ q, xm_lk tt pc = some q ∧ ft as M = some q.2.2.2.2.1) ?_ ?_ ?_ ?_ (Kn as M) (hargs as M hpre) (hlp as M hpre) (hvc as M hpre) hP
  · intro pc v M' cl H locs lsC hdg hn hq hR
    obtain ⟨e0, e1, e2⟩ := hq
    subst e2
    have hr' : meth.sig.returnType = some rt := by
      rcases hret with h | h
      · exact absurd ((hsome as M hpre).mpr h) (by rw [← e1]; simp)
      · rw [hr, h]
    exact W.widen (k := 1) (n := 6) (Nat.zero_le _) (Nat.zero_le _) (vx_ret (W.zret hx hb hr' hn (fun t ht _ => ⟨e0, by rw [← e1]; rfl, by rw [ht]; exact hR.1, hR.2.1.F ht⟩) hR.2.1.2.2 hdg))
  · intro pc v M' cl H locs lsC hdg hq hR
    exact (hlong as M v hpre hq.2.1).elim
  · intro pc M' cl H locs lsC hdg hq hR
    obtain ⟨e0, e1, e2⟩ := hq
    subst e2
    have hr' : meth.sig.returnType = none := by rw [hr]; exact (hsome as M hpre).mp e1.symm
    exact W.widen (k := 1) (n := 6) (Nat.zero_le _) (Nat.zero_le _) (vx_ret (W.vret hx hb hr' (fun t ht _ => ⟨e0, by rw [← e1]; rfl, by rw [ht]; exact hR.1, hR.2.1.F ht⟩) hR.2.1.2.2 hdg))
  · intro pc n M' cl H locs lsC hdg hq hR hsz
    obtain ⟨e0, q, e1, e2⟩ := hq
    obtain ⟨eH, eL⟩ := hR.2.2 e0
    subst eH; subst eL
    obtain ⟨⟨d0, d3, dd⟩, hfit, hcl, hini, hat, hot, hss⟩ := htt (pc, q) (xm_lk_mem e1)
    obtain ⟨sa, hsa⟩ := hSr _ hss
    have hat' : ∀ w ∈ vx_atS y.cls q.2.2.1 q.2.2.2.2.1 xm_nms, w.before (as.map (xm_v ad)).toArray s = true := by
      intro w hw
      rcases hat w hw with h | h
      · exact hts w h
      · have h1 := hot w (List.mem_cons_of_mem _ (List.mem_cons_of_mem _ hw))
        exact vx_ot_at (args := #[]) (State.WarmedH.refl s) rfl h1 (hN w h)
    have hxc : ∀ t : State, s.vm.Alike t.vm → s.heap.size ≤ t.heap.size → (∀ a : Nat, a < s.heap.size → t.heap[a]? = s.heap[a]?) → ft as M = some q.2.2.2.2.1 ∧ va_P (dC, dI) cls (xm_W ad dA tp M) t.heap ∧ va_F (xm_A ad tp.length) s t := by
      intro t _ h1 h2
      refine ⟨e2, fun k z hk => ?_, h1, fun a ha _ => h2 a ha⟩
      exact (hP k z hk).kept (h2 _ (hP k z hk).lt)
    have hout : ∀ (x : ExceptionTableEntry), x ∈ c.exceptionTable.toList → ∀ z, covers x z = false := fun x hx => (htab x hx).elim
    obtain ⟨q1, q2, q3, wd, X, tx⟩ := q
    dsimp only at d0 d3 dd hfit hcl hini hat hot hss hsa hat' hxc e2
    cases wd with
    | true =>
      obtain ⟨d4, d7, d10⟩ := dd
      exact vx_throwSW hx hb hl (own := y.cls) (cls := X) (text := tx) (names := xm_nms) (ik := q1) (is := q2) (ic := q3) (A := xm_A ad tp.length) hown hfit (by decide) (hts _ hcl) (hts _ hini) hsa hat' hot hZ.1 hZ.2 va_S.rf (hsz.trans hml.symm) d0 d3 d4 d7 d10 (fun x hx => hout x hx _) (by show 2 + 3 < rm.frames; omega) (by show 0 + (13 * (2 + 1) + 43) ≤ rm.locals; omega) (by show 0 + 1 ≤ rm.cells; omega) (by show 0 + 6 ≤ rm.slots; omega) hlocks hxc (fun z h => by cases h) (Nat.le_refl _) (Nat.le_refl _)
    | false =>
      obtain ⟨d4, d7, d10⟩ := dd
      exact vx_throwS hx hb hl (own := y.cls) (cls := X) (text := tx) (names := xm_nms) (ik := q1) (is := q2) (ic := q3) (A := xm_A ad tp.length) hown hfit (by decide) (hts _ hcl) (hts _ hini) hsa hat' hot hZ.1 hZ.2 va_S.rf (hsz.trans hml.symm) d0 d3 d4 d7 d10 (fun x hx => hout x hx _) (by show 2 + 3 < rm.frames; omega) (by show 0 + (13 * (2 + 1) + 43) ≤ rm.locals; omega) (by show 0 + 1 ≤ rm.cells; omega) (by show 0 + 6 ≤ rm.slots; omega) hlocks hxc (fun z h => by cases h) (Nat.le_refl _) (Nat.le_refl _)
end XMT
end
section
/-! THROWS of the class: texts, and the words of its exceptions -/
def xh_ss : List (Nat × String) := [(71, "skills, rank or day"), (81, "no room for a person"), (93, "no such person"), (96, "up or down"), (104, "something would be left below 0"), (114, "days"), (116, "less than it was"), (118, "no such day"), (124, "it is a holiday"), (130, "no such days"), (136, "skills or least"), (139, "no room for a crew"), (144, "no such crew or person"), (152, "it is so"), (163, "no such person or kind"), (171, "days or halves"), (176, "a day of it is one of another ask"), (182, "less than 0 would be left"), (185, "no room for an ask"), (191, "no such ask or person"), (205, "no step by this person"), (227, "no such ask"), (232, "it was withdrawn"), (240, "no such what"), (242, "no such person, year or what"), (256, "no such crew"), (265, "no such row"), (276, "no such person or skill"), (281, "hours"), (283, "no such day, or it is over"), (286, "no room for a call"), (294, "no such call"), (297, "it does not wait")]
theorem xh_at_IndexOutOfBoundsException : ∀ w ∈ vx_atS "AbsenceRows" 73 "java/lang/IndexOutOfBoundsException" xm_nms, w ∈ xt_T ∨ w ∈ xk_ns := by decide +kernel
theorem xh_ot_IndexOutOfBoundsException : ∀ w ∈ Cond.classLink "AbsenceRows" 69 "java/lang/IndexOutOfBoundsException" :: Cond.initialized "java/lang/IndexOutOfBoundsException" :: vx_atS "AbsenceRows" 73 "java/lang/IndexOutOfBoundsException" xm_nms, vx_ot w = true := by decide +kernel
theorem xh_cl_IndexOutOfBoundsException : Cond.classLink "AbsenceRows" 69 "java/lang/IndexOutOfBoundsException" ∈ xt_T := xt_in 274 (by decide +kernel) rfl
theorem xh_in_IndexOutOfBoundsException : Cond.initialized "java/lang/IndexOutOfBoundsException" ∈ xt_T := xt_in 48 (by decide +kernel) rfl
theorem xh_at_UnsupportedOperationException : ∀ w ∈ vx_atS "AbsenceRows" 83 "java/lang/UnsupportedOperationException" xm_nms, w ∈ xt_T ∨ w ∈ xk_ns := by decide +kernel
theorem xh_ot_UnsupportedOperationException : ∀ w ∈ Cond.classLink "AbsenceRows" 79 "java/lang/UnsupportedOperationException" :: Cond.initialized "java/lang/UnsupportedOperationException" :: vx_atS "AbsenceRows" 83 "java/lang/UnsupportedOperationException" xm_nms, vx_ot w = true := by decide +kernel
theorem xh_cl_UnsupportedOperationException : Cond.classLink "AbsenceRows" 79 "java/lang/UnsupportedOperationException" ∈ xt_T := xt_in 343 (by decide +kernel) rfl
theorem xh_in_UnsupportedOperationException : Cond.initialized "java/lang/UnsupportedOperationException" ∈ xt_T := xt_in 49 (by decide +kernel) rfl
theorem xh_at_IllegalStateException : ∀ w ∈ vx_atS "AbsenceRows" 106 "java/lang/IllegalStateException" xm_nms, w ∈ xt_T ∨ w ∈ xk_ns := by decide +kernel
theorem xh_ot_IllegalStateException : ∀ w ∈ Cond.classLink "AbsenceRows" 102 "java/lang/IllegalStateException" :: Cond.initialized "java/lang/IllegalStateException" :: vx_atS "AbsenceRows" 106 "java/lang/IllegalStateException" xm_nms, vx_ot w = true := by decide +kernel
theorem xh_cl_IllegalStateException : Cond.classLink "AbsenceRows" 102 "java/lang/IllegalStateException" ∈ xt_T := xt_in 450 (by decide +kernel) rfl
theorem xh_in_IllegalStateException : Cond.initialized "java/lang/IllegalStateException" ∈ xt_T := xt_in 52 (by decide +kernel) rfl
theorem xh_at_IllegalArgumentException : ∀ w ∈ vx_atS "AbsenceRows" 95 "java/lang/IllegalArgumentException" xm_nms, w ∈ xt_T ∨ w ∈ xk_ns := by decide +kernel
theorem xh_ot_IllegalArgumentException : ∀ w ∈ Cond.classLink "AbsenceRows" 91 "java/lang/IllegalArgumentException" :: Cond.initialized "java/lang/IllegalArgumentException" :: vx_atS "AbsenceRows" 95 "java/lang/IllegalArgumentException" xm_nms, vx_ot w = true := by decide +kernel
theorem xh_cl_IllegalArgumentException : Cond.classLink "AbsenceRows" 91 "java/lang/IllegalArgumentException" ∈ xt_T := xt_in 377 (by decide +kernel) rfl
theorem xh_in_IllegalArgumentException : Cond.initialized "java/lang/IllegalArgumentException" ∈ xt_T := xt_in 50 (by decide +kernel) rfl
noncomputable def xo_ (c : Prop) (a b : Option String) : Option String := @ite (Option String) c (Classical.propDecidable c) a b
theorem xo_t {c : Prop} {a b : Option String} (h : c) : xo_ c a b = a := by simp [xo_, h]
theorem xo_f {c : Prop} {a b : Option String} (h : ¬ c) : xo_ c a b = b := by simp [xo_, h]
def xr_p : Room := { frames := 7, cells := 1, slots := 6, locals := 210 }
/-! THE CLASS's PUBLIC METHODS -/
theorem xl_has {x y : Int32} {N : Nat} (hN : N < 2 ^ 30) (hy : xv_n y N) (h : 0 ≤ x ∧ x ≤ y - 1) : vp_in x N := by
  obtain ⟨c, hc, rfl⟩ := hy
  obtain ⟨h1, h2⟩ := h
  rw [vp_in_iff]
  rw [Int32.le_iff_toInt_le] at h1 h2
  have e1 : (nI c - 1).toInt = (c : Int) - 1 := pk_sub_toInt (a := c) (b := 1) (by omega) (by omega)
  have e0 : (0 : Int32).toInt = 0 := rfl
  omega
theorem xl_hasc {x y : Int32} {N : Nat} (hN : N < 2 ^ 30) (hy : xv_n y N) (h : 0 ≤ x ∧ x ≤ y - 1) : x.toNatClampNeg < y.toNatClampNeg := by
  obtain ⟨c, hc, rfl⟩ := hy
  have h3 : vp_in x c := xl_has (by omega) ⟨c, Nat.le_refl _, rfl⟩ h
  obtain ⟨k, hk, rfl⟩ := vp_in_of h3 (by omega)
  rw [nI_clamp (by omega), nI_clamp (by omega)]
  exact hk
theorem xl_day {d : Int32} (h : 0 ≤ d ∧ d ≤ 729) : vp_in d 730 := by
  rw [vp_in_iff]
  obtain ⟨h1, h2⟩ := h
  rw [Int32.le_iff_toInt_le] at h1 h2
  have e0 : (0 : Int32).toInt = 0 := rfl
  have e1 : (729 : Int32).toInt = 729 := rfl
  omega
theorem xl_8 {d : Int32} (h : 0 ≤ d ∧ d ≤ 7) : vp_in d 8 := by
  rw [vp_in_iff]
  obtain ⟨h1, h2⟩ := h
  rw [Int32.le_iff_toInt_le] at h1 h2
  have e0 : (0 : Int32).toInt = 0 := rfl
  have e1 : (7 : Int32).toInt = 7 := rfl
  omega
theorem xl_span {f t : Int32} (hf : 0 ≤ f ∧ f ≤ 729) (ht : 0 ≤ t ∧ t ≤ 729) (h : f ≤ t) : xv_span f t := by
  obtain ⟨a, ha, rfl⟩ := vp_in_of (xl_day hf) (by decide)
  obtain ⟨b, hb, rfl⟩ := vp_in_of (xl_day ht) (by decide)
  exact ⟨a, b, rfl, rfl, (nI_leI (by omega) (by omega)).mp h, hb⟩
theorem xl_room {x : Int32} {N : Nat} {y : Int32} (hN : N < 2 ^ 31) (hy : y = nI N) (hx : xv_n x N) (h : ¬ y ≤ x) : vp_in x N := by
  obtain ⟨c, hc, rfl⟩ := hx
  subst hy
  exact vp_in_nI ((nI_ltI (by omega) hN).mp (Int32.not_le.mp h)) (by omega)
/-- the class's places are within their arrays -/
def xv_I (M : xm_M) : Prop := xv_C M ∧ xv_n (M 5 0) 100 ∧ (∀ i, i < (M 4 0).toNatClampNeg → xv_span (M 20 i) (M 21 i) ∧ vp_in (M 18 i) 20) ∧ (∀ i, i < (M 6 0).toNatClampNeg → vp_in (M 28 i) 6)
theorem xv_I.P {M : xm_M} (h : xv_I M) : xv_n (M 2 0) 20 := h.1.1
theorem xv_I.W {M : xm_M} (h : xv_I M) : xv_n (M 3 0) 6 := h.1.2.1
theorem xv_I.A {M : xm_M} (h : xv_I M) : xv_n (M 4 0) 80 := h.1.2.2.1
theorem xv_I.H {M : xm_M} (h : xv_I M) : xv_n (M 5 0) 100 := h.2.1
theorem xv_I.L {M : xm_M} (h : xv_I M) : xv_n (M 6 0) 60 := h.1.2.2.2
theorem xv_I.K {M : xm_M} (h : xv_I M) : xv_K M := by
  obtain ⟨c, h1, h2⟩ := h.A
  refine ⟨c, h1, h2, fun i hi => (h.2.2.1 i ?_).1⟩
  rw [h2, nI_clamp (by omega)]; exact hi
theorem xv_I.a {M : xm_M} (h : xv_I M) {a : Int32} (ha : 0 ≤ a ∧ a ≤ M 4 0 - 1) : xv_span (M 20 a.toNatClampNeg) (M 21 a.toNatClampNeg) ∧ vp_in (M 18 a.toNatClampNeg) 20 := h.2.2.1 _ (xl_hasc (by decide) h.A ha)
theorem xv_I.c {M : xm_M} (h : xv_I M) {a : Int32} (ha : 0 ≤ a ∧ a ≤ M 6 0 - 1) : vp_in (M 28 a.toNatClampNeg) 6 := h.2.2.2 _ (xl_hasc (by decide) h.L ha)
theorem xl_b8 {p s : Int32} (hp : vp_in p 20) (hs : vp_in s 8) : vp_in (p * 8 + s) 160 := by
  obtain ⟨i, hi, rfl⟩ := vp_in_of hs (by decide)
  exact xl_b hp hi
/-- places that hold what a call's turn leaves as it is -/
def xv_s (M N : xm_M) : Prop := ∀ p, p ≠ 13 → p ≠ 30 → p ≠ 31 → p ≠ 32 → p ≠ 33 → N p = M p
theorem xv_s.rf (M : xm_M) : xv_s M M := fun _ _ _ _ _ _ => rfl
theorem xv_s.tr {M N O : xm_M} (h : xv_s M N) (g : xv_s N O) : xv_s M O := fun p a b c d e => (g p a b c d e).trans (h p a b c d e)
theorem xm_up_ne {M : xm_M} {p q k : Nat} {x : Int32} (h : q ≠ p) : xm_up M p k x q = M q := by funext b; simp [xm_up, h]
theorem xv_s.nx (M : xm_M) (k : Int32) : xv_s M (xm_nx M k) := by
  intro p a b c d e
  unfold xm_nx
  by_cases h : xd_nx M k = -1
  · rw [if_pos h]; unfold xm_fl; rw [xm_up_ne e, xm_up_ne c, xm_up_ne b]
  · rw [if_neg h]; unfold xm_an; rw [xm_up_ne e, xm_up_ne d, xm_up_ne c, xm_up_ne a]
theorem xv_s.I {M N : xm_M} (h : xv_s M N) (hI : xv_I M) : xv_I N := by
  have e : ∀ p, p ≠ 13 → p ≠ 30 → p ≠ 31 → p ≠ 32 → p ≠ 33 → N p = M p := h
  unfold xv_I xv_C at *
  rw [e 2, e 3, e 4, e 5, e 6, e 20, e 21, e 18, e 28] <;> first | exact hI | decide
/-- one round of the calls: those that wait and are due go on -/
noncomputable def xq_go (M : xm_M) : Nat → Int32 × xm_M
  | 0 => (0, M)
  | n + 1 => @ite (Int32 × xm_M) ((xq_go M n).2 30 n = 0 ∧ (xq_go M n).2 33 n ≤ M 0 8) (Classical.propDecidable _) ((xq_go M n).1 + 1, xm_nx (xq_go M n).2 (nI n)) (xq_go M n)
theorem xq_go1t {M : xm_M} {n : Nat} (h : (xq_go M n).2 30 n = 0 ∧ (xq_go M n).2 33 n ≤ M 0 8) : xq_go M (n + 1) = ((xq_go M n).1 + 1, xm_nx (xq_go M n).2 (nI n)) := if_pos h
theorem xq_go1f {M : xm_M} {n : Nat} (h : ¬ ((xq_go M n).2 30 n = 0 ∧ (xq_go M n).2 33 n ≤ M 0 8)) : xq_go M (n + 1) = xq_go M n := if_neg h
theorem xq_go_s (M : xm_M) : ∀ n, xv_s M (xq_go M n).2
  | 0 => xv_s.rf M
  | n + 1 => by
    by_cases h : (xq_go M n).2 30 n = 0 ∧ (xq_go M n).2 33 n ≤ M 0 8
    · rw [xq_go1t h]; exact (xq_go_s M n).tr (xv_s.nx _ _)
    · rw [xq_go1f h]; exact xq_go_s M n
/-- rounds of a tick up to hour e -/
noncomputable def xq_r (s : Int32 × xm_M) (x : Int32) : Int32 × xm_M := (s.1 + (xq_go (xm_up s.2 0 8 x) (s.2 6 0).toNatClampNeg).1, (xq_go (xm_up s.2 0 8 x) (s.2 6 0).toNatClampNeg).2)
noncomputable def xq_n (M : xm_M) : Int32 := xq_m (M 33) (M 6 0).toNatClampNeg
noncomputable def xq_tk (e : Int32) : Nat → Int32 × xm_M → Int32 × xm_M
  | 0, s => s
  | n + 1, s => @ite (Int32 × xm_M) (xq_n s.2 = -1 ∨ e < xq_n s.2) (Classical.propDecidable _) s (xq_tk e n (xq_r s (xq_n s.2)))
theorem xq_tk1t {e : Int32} {n : Nat} {s : Int32 × xm_M} (h : xq_n s.2 = -1 ∨ e < xq_n s.2) : xq_tk e n s = s := by
  cases n with
  | zero => rfl
  | succ n => exact if_pos h
theorem xq_tk1f {e : Int32} {n : Nat} {s : Int32 × xm_M} (h : ¬ (xq_n s.2 = -1 ∨ e < xq_n s.2)) : xq_tk e (n + 1) s = xq_tk e n (xq_r s (xq_n s.2)) := if_neg h
theorem xv_I.hr {M : xm_M} (h : xv_I M) (x : Int32) : xv_I (xm_up M 0 8 x) := by
  have e : ∀ p, p ≠ 0 → (xm_up M 0 8 x) p = M p := fun p hp => xm_up_ne hp
  unfold xv_I xv_C at *
  rw [e 2, e 3, e 4, e 5, e 6, e 20, e 21, e 18, e 28] <;> first | exact h | decide
theorem xv_I.r {s : Int32 × xm_M} (h : xv_I s.2) (x : Int32) : xv_I (xq_r s x).2 := (xq_go_s _ _).I (h.hr x)
theorem xl_tb {x : Int32} {v : Int} (h : x.toInt = v) (h1 : -2147483648 ≤ v ∧ v < 2147483648 := by decide) : x = Int32.ofInt v := by
  rw [← h]; simp
theorem xl_td {x : Int32} {lo hi : Int} (h : x.toInt < lo ∨ hi < x.toInt) (v : Int32) (h1 : lo ≤ v.toInt ∧ v.toInt ≤ hi := by decide) : ¬ x = v := by
  intro q
  subst q
  omega
theorem xl_m1 (z : Int32) : ¬ (if (1 : Int32) < z then z else 1) = 0 := by
  by_cases h : (1 : Int32) < z
  · rw [if_pos h]
    rintro rfl
    exact absurd h (by decide)
  · rw [if_neg h]; decide
theorem xl_cadd {M : xm_M} {w d : Int32} (hw : vp_in w 6) (hI : xv_I M) (hr : vp_in (M 6 0) 60) : vp_in (M 6 0 + 1 - 1) 60 ∧ vp_in ((fL_add [.ref 6, .int w, .int d] M).2 28 (M 6 0 + 1 - 1).toNatClampNeg) 6 ∧ xv_C (fL_add [.ref 6, .int w, .int d] M).2 := by
  have e1 : M 6 0 + 1 - 1 = M 6 0 := by simp
  rw [e1]
  refine ⟨hr, ?_, hI.P, hI.W, hI.A, ?_⟩
  · have e2 : (fL_add [.ref 6, .int w, .int d] M).2 28 (M 6 0).toNatClampNeg = w := by simp [fL_add, xm_up]
    rw [e2]; exact hw
  · obtain ⟨c, hc, h1⟩ := vp_in_of hr (by decide)
    refine ⟨c + 1, by omega, ?_⟩
    rw [nI_succ, ← h1]; rfl
def pA_person (as : List Value) (M : xm_M) : Prop := ∃ s r d : Int32, as = [.ref 0, .int s, .int r, .int d] ∧ xv_I M
noncomputable def fA_person (as : List Value) (M : xm_M) : Option Value × xm_M := match as with
  | [_, .int s, .int r, .int d] => ((fP_add [.ref 2, .int s, .int r, .int d] M).1, (fP_add [.ref 2, .int s, .int r, .int d] M).2)
  | _ => (none, M)
noncomputable def ftA_person (as : List Value) (M : xm_M) : Option String := match as with
  | [_, .int s, .int r, .int d] => xo_ (¬ ((0 ≤ s ∧ s ≤ 255) ∧ (0 ≤ r ∧ r ≤ 9) ∧ (0 ≤ d ∧ d ≤ 729))) (some "java/lang/IndexOutOfBoundsException") (xo_ (20 ≤ M 2 0) (some "java/lang/UnsupportedOperationException") (none))
  | _ => none
noncomputable def tA_person : List (Nat × xm_C) := [(61, sA_isWithin), (65, sA_isDay), (84, sP_add)]
theorem lA_person (l : Launch) : ∀ n C, (n, C) ∈ tA_person → xm_lkS l "AbsenceRows" xt_T xk_ns xr_p xk_cl xk_tA n C ∨ xm_lkV l "AbsenceRows" xt_T xk_ns xr_p xk_cl xk_tA n C := fun n C h => (show ∀ q ∈ tA_person, xm_lkS l "AbsenceRows" xt_T xk_ns xr_p xk_cl xk_tA q.1 q.2 ∨ xm_lkV l "AbsenceRows" xt_T xk_ns xr_p xk_cl xk_tA q.1 q.2 from List.forall_mem_cons.mpr ⟨Or.inl ⟨xy_A_isWithin, xb_A_isWithin, 3, (some .boolean), xr_ 0, rfl, ⟨xe_A_isWithin, xw_37, ⟨by decide, by decide, by decide +kernel⟩, ⟨Nat.le_of_ble_eq_true rfl, Nat.le_of_ble_eq_true rfl⟩, rfl, rfl⟩, xw_269, Or.inl xw_268, Or.inl ⟨rfl, uA_isWithin, cA_isWithin l⟩⟩, List.forall_mem_cons.mpr ⟨Or.inl ⟨xy_A_isDay, xb_A_isDay, 1, (some .boolean), xr_ 1, rfl, ⟨xe_A_isDay, xw_37, ⟨by decide, by decide, by decide +kernel⟩, ⟨Nat.le_of_ble_eq_true rfl, Nat.le_of_ble_eq_true rfl⟩, rfl, rfl⟩, xw_272, Or.inl xw_271, Or.inl ⟨rfl, uA_isDay, cA_isDay l⟩⟩, List.forall_mem_cons.mpr ⟨Or.inr ⟨xy_P_add, xb_P_add, 4, (some .int), xr_ 0, 3, 2, 2, [none, some 8, some 9, some 10, some 11, some 12, some 13, some 14], xk_T2, 8, rfl, rfl, ⟨xe_P_add, xw_39, ⟨by decide, by decide, by decide +kernel⟩, ⟨Nat.le_of_ble_eq_true rfl, Nat.le_of_ble_eq_true rfl⟩, rfl, rfl⟩, xw_359, xw_360, xw_361, rfl, rfl, vP_add, Or.inr ⟨rfl, cP_add l⟩⟩, fun _ h => absurd h List.not_mem_nil⟩⟩⟩) (n, C) h
def ttA_person : List (Nat × xm_Q) := [(28, (69, 71, 73, false, "java/lang/IndexOutOfBoundsException", "skills, rank or day")), (50, (79, 81, 83, false, "java/lang/UnsupportedOperationException", "no room for a person"))]
theorem toA_person : ∀ q ∈ ttA_person, xm_thr "AbsenceRows" xt_T xk_ns xh_ss xb_A_person q.1 q.2 := List.forall_mem_cons.mpr ⟨⟨⟨by decide +kernel, by decide +kernel, by decide +kernel, by decide +kernel, by decide +kernel⟩, by decide, xh_cl_IndexOutOfBoundsException, xh_in_IndexOutOfBoundsException, xh_at_IndexOutOfBoundsException, xh_ot_IndexOutOfBoundsException, List.mem_of_getElem? (i := 0) rfl⟩, List.forall_mem_cons.mpr ⟨⟨⟨by decide +kernel, by decide +kernel, by decide +kernel, by decide +kernel, by decide +kernel⟩, by decide, xh_cl_UnsupportedOperationException, xh_in_UnsupportedOperationException, xh_at_UnsupportedOperationException, xh_ot_UnsupportedOperationException, List.mem_of_getElem? (i := 1) rfl⟩, fun _ h => absurd h List.not_mem_nil⟩⟩
set_option maxRecDepth 20000 in
set_option maxHeartbeats 4000000 in
theorem cA_person (l : Launch) (hl : l.stackTraces = false) : xm_Th l xy_A_person (Cond.code xy_A_person xb_A_person 4 (some .int) :: xt_T) xr_p "AbsenceRows" xh_ss xk_cl xk_ns xk_tA pA_person fA_person ftA_person := by
  refine xm_mk_th (rt := .int) (fl := xf_A) (ct := tA_person) (cn := []) (cj := []) (tt := ttA_person) hl (by decide) xs_A xd_A_person rfl (Or.inr rfl) (lA_person l) toA_person ⟨Nat.le_of_ble_eq_true rfl, Nat.le_of_ble_eq_true rfl, rfl, rfl⟩ (fun _ _ _ _ _ _ _ _ => False) ?_ ?_ ?_ (fun _ _ _ _ _ _ _ _ _ h => h.elim) ?_
  · rintro as M ⟨s, r, d, rfl, hpre⟩; exact Nat.le_of_ble_eq_true rfl
  · rintro as M ⟨s, r, d, rfl, hpre⟩; simp [fA_person, fP_add]
  · rintro as M v ⟨s, r, d, rfl, hpre⟩ h; simp [fA_person, fP_add] at h
  · rintro as M ⟨s, r, d, rfl, hpre⟩
    refine ⟨600, (And.intro rfl (And.intro (Nat.le_of_ble_eq_true rfl) (And.intro (Nat.le_of_ble_eq_true rfl) (And.intro ?g1_c_5 (And.intro (by decide) (And.intro (fun h8 => ?g2_t_28) (fun h8 => (And.intro rfl (And.intro (Nat.le_of_ble_eq_true rfl) (And.intro (Nat.le_of_ble_eq_true rfl) (And.intro ?g3_c_15 (And.intro (by decide) (And.intro (fun h18 => ?g4_t_28) (fun h18 => (And.intro rfl (And.intro (Nat.le_of_ble_eq_true rfl) (And.intro (Nat.le_of_ble_eq_true rfl) (And.intro ?g5_c_22 (And.intro (by decide) (And.intro (fun h25 => (And.intro rfl (And.intro rfl (And.intro (by decide) (And.intro (fun h47 => (And.intro rfl (And.intro rfl (And.intro (Nat.le_of_ble_eq_true rfl) (And.intro (Nat.le_of_ble_eq_true rfl) (And.intro ?g6_c_67 (And.intro ?g7_w_70 ?g8_r_70))))))) (fun h47 => ?g9_t_50)))))) (fun h25 => ?g10_t_28)))))))))))))))))))))⟩
    case g1_c_5 =>
      exact ⟨_, _, _, rfl⟩
    case g2_t_28 =>
      refine ⟨rfl, _, rfl, ?_⟩
      simp only [ftA_person]
      try simp only [xi_0, xi_n0] at *
      grind [xo_t, xo_f, Int32.not_lt, Int32.not_le]
    case g3_c_15 =>
      exact ⟨_, _, _, rfl⟩
    case g4_t_28 =>
      refine ⟨rfl, _, rfl, ?_⟩
      simp only [ftA_person]
      try simp only [xi_0, xi_n0] at *
      grind [xo_t, xo_f, Int32.not_lt, Int32.not_le]
    case g5_c_22 =>
      exact ⟨_, rfl⟩
    case g6_c_67 =>
      exact ⟨_, _, _, rfl, xl_room (by decide) rfl hpre.P (Int32.not_le.mpr h47)⟩
    case g7_w_70 =>
      first | rfl | exact xi_nb
    case g8_r_70 =>
      refine ⟨?_, rfl, rfl⟩
      simp only [ftA_person]
      try simp only [xi_0, xi_n0] at *
      grind [xo_t, xo_f, Int32.not_lt, Int32.not_le]
    case g9_t_50 =>
      refine ⟨rfl, _, rfl, ?_⟩
      simp only [ftA_person]
      try simp only [xi_0, xi_n0] at *
      grind [xo_t, xo_f, Int32.not_lt, Int32.not_le]
    case g10_t_28 =>
      refine ⟨rfl, _, rfl, ?_⟩
      simp only [ftA_person]
      try simp only [xi_0, xi_n0] at *
      grind [xo_t, xo_f, Int32.not_lt, Int32.not_le]
def pA_carry (as : List Value) (M : xm_M) : Prop := ∃ d : Int32, as = [.ref 0, .int d] ∧ xv_I M
noncomputable def fA_carry (as : List Value) (M : xm_M) : Option Value × xm_M := match as with
  | [_, .int d] => (none, xm_up M 0 6 d)
  | _ => (none, M)
noncomputable def ftA_carry (as : List Value) (M : xm_M) : Option String := match as with
  | [_, .int d] => xo_ (¬ (0 ≤ d ∧ d ≤ 100)) (some "java/lang/IndexOutOfBoundsException") (xo_ (d < M 0 6) (some "java/lang/IllegalStateException") (none))
  | _ => none
noncomputable def tA_carry : List (Nat × xm_C) := [(61, sA_isWithin)]
theorem lA_carry (l : Launch) : ∀ n C, (n, C) ∈ tA_carry → xm_lkS l "AbsenceRows" xt_T xk_ns xr_p xk_cl xk_tA n C ∨ xm_lkV l "AbsenceRows" xt_T xk_ns xr_p xk_cl xk_tA n C := fun n C h => (show ∀ q ∈ tA_carry, xm_lkS l "AbsenceRows" xt_T xk_ns xr_p xk_cl xk_tA q.1 q.2 ∨ xm_lkV l "AbsenceRows" xt_T xk_ns xr_p xk_cl xk_tA q.1 q.2 from List.forall_mem_cons.mpr ⟨Or.inl ⟨xy_A_isWithin, xb_A_isWithin, 3, (some .boolean), xr_ 0, rfl, ⟨xe_A_isWithin, xw_37, ⟨by decide, by decide, by decide +kernel⟩, ⟨Nat.le_of_ble_eq_true rfl, Nat.le_of_ble_eq_true rfl⟩, rfl, rfl⟩, xw_269, Or.inl xw_268, Or.inl ⟨rfl, uA_isWithin, cA_isWithin l⟩⟩, fun _ h => absurd h List.not_mem_nil⟩) (n, C) h
def ttA_carry : List (Nat × xm_Q) := [(10, (69, 114, 73, false, "java/lang/IndexOutOfBoundsException", "days")), (28, (102, 116, 106, false, "java/lang/IllegalStateException", "less than it was"))]
theorem toA_carry : ∀ q ∈ ttA_carry, xm_thr "AbsenceRows" xt_T xk_ns xh_ss xb_A_carry q.1 q.2 := List.forall_mem_cons.mpr ⟨⟨⟨by decide +kernel, by decide +kernel, by decide +kernel, by decide +kernel, by decide +kernel⟩, by decide, xh_cl_IndexOutOfBoundsException, xh_in_IndexOutOfBoundsException, xh_at_IndexOutOfBoundsException, xh_ot_IndexOutOfBoundsException, List.mem_of_getElem? (i := 5) rfl⟩, List.forall_mem_cons.mpr ⟨⟨⟨by decide +kernel, by decide +kernel, by decide +kernel, by decide +kernel, by decide +kernel⟩, by decide, xh_cl_IllegalStateException, xh_in_IllegalStateException, xh_at_IllegalStateException, xh_ot_IllegalStateException, List.mem_of_getElem? (i := 6) rfl⟩, fun _ h => absurd h List.not_mem_nil⟩⟩
set_option maxRecDepth 20000 in
set_option maxHeartbeats 4000000 in
theorem cA_carry (l : Launch) (hl : l.stackTraces = false) : xm_Th l xy_A_carry (Cond.code xy_A_carry xb_A_carry 2 none :: xt_T) xr_p "AbsenceRows" xh_ss xk_cl xk_ns xk_tA pA_carry fA_carry ftA_carry := by
  refine xm_mk_th (rt := .int) (fl := xf_A) (ct := tA_carry) (cn := []) (cj := []) (tt := ttA_carry) hl (by decide) xs_A xd_A_carry rfl (Or.inl rfl) (lA_carry l) toA_carry ⟨Nat.le_of_ble_eq_true rfl, Nat.le_of_ble_eq_true rfl, rfl, rfl⟩ (fun _ _ _ _ _ _ _ _ => False) ?_ ?_ ?_ (fun _ _ _ _ _ _ _ _ _ h => h.elim) ?_
  · rintro as M ⟨d, rfl, hpre⟩; exact Nat.le_of_ble_eq_true rfl
  · rintro as M ⟨d, rfl, hpre⟩; simp [fA_carry]
  · rintro as M v ⟨d, rfl, hpre⟩ h; simp [fA_carry] at h
  · rintro as M ⟨d, rfl, hpre⟩
    refine ⟨600, (And.intro rfl (And.intro (Nat.le_of_ble_eq_true rfl) (And.intro (Nat.le_of_ble_eq_true rfl) (And.intro ?g1_c_4 (And.intro (by decide) (And.intro (fun h7 => (And.intro rfl (And.intro (by decide) (And.intro (fun h25 => (And.intro rfl ?g2_r_43)) (fun h25 => ?g3_t_28))))) (fun h7 => ?g4_t_10)))))))⟩
    case g1_c_4 =>
      exact ⟨_, _, _, rfl⟩
    case g2_r_43 =>
      refine ⟨?_, rfl, rfl⟩
      simp only [ftA_carry]
      try simp only [xi_0, xi_n0] at *
      grind [xo_t, xo_f, Int32.not_lt, Int32.not_le]
    case g3_t_28 =>
      refine ⟨rfl, _, rfl, ?_⟩
      simp only [ftA_carry]
      try simp only [xi_0, xi_n0] at *
      grind [xo_t, xo_f, Int32.not_lt, Int32.not_le]
    case g4_t_10 =>
      refine ⟨rfl, _, rfl, ?_⟩
      simp only [ftA_carry]
      try simp only [xi_0, xi_n0] at *
      grind [xo_t, xo_f, Int32.not_lt, Int32.not_le]
def pA_budget (as : List Value) (M : xm_M) : Prop := ∃ p u d : Int32, as = [.ref 0, .int p, .int u, .int d] ∧ xv_I M
noncomputable def fA_budget (as : List Value) (M : xm_M) : Option Value × xm_M := match as with
  | [_, .int p, .int u, .int d] => (none, (xm_up (xm_up M 11 p.toNatClampNeg u) 12 p.toNatClampNeg d))
  | _ => (none, M)
noncomputable def ftA_budget (as : List Value) (M : xm_M) : Option String := match as with
  | [_, .int p, .int u, .int d] => xo_ (¬ (0 ≤ p ∧ p ≤ M 2 0 - 1)) (some "java/lang/IllegalArgumentException") (xo_ (¬ ((0 ≤ u ∧ u ≤ 400) ∧ (1 ≤ d ∧ d ≤ 12))) (some "java/lang/IndexOutOfBoundsException") (xo_ (¬ xd_en M u d p 0 0) (some "java/lang/IllegalStateException") (none)))
  | _ => none
noncomputable def tA_budget : List (Nat × xm_C) := [(88, sP_has), (61, sA_isWithin), (98, sA_isEnough)]
theorem lA_budget (l : Launch) : ∀ n C, (n, C) ∈ tA_budget → xm_lkS l "AbsenceRows" xt_T xk_ns xr_p xk_cl xk_tA n C ∨ xm_lkV l "AbsenceRows" xt_T xk_ns xr_p xk_cl xk_tA n C := fun n C h => (show ∀ q ∈ tA_budget, xm_lkS l "AbsenceRows" xt_T xk_ns xr_p xk_cl xk_tA q.1 q.2 ∨ xm_lkV l "AbsenceRows" xt_T xk_ns xr_p xk_cl xk_tA q.1 q.2 from List.forall_mem_cons.mpr ⟨Or.inr ⟨xy_P_has, xb_P_has, 2, (some .boolean), xr_ 1, 1, 2, 2, [none, some 8, some 9, some 10, some 11, some 12, some 13, some 14], xk_T2, 8, rfl, rfl, ⟨xe_P_has, xw_39, ⟨by decide, by decide, by decide +kernel⟩, ⟨Nat.le_of_ble_eq_true rfl, Nat.le_of_ble_eq_true rfl⟩, rfl, rfl⟩, xw_372, xw_373, xw_374, rfl, rfl, vP_has, Or.inl ⟨rfl, uP_has, cP_has l⟩⟩, List.forall_mem_cons.mpr ⟨Or.inl ⟨xy_A_isWithin, xb_A_isWithin, 3, (some .boolean), xr_ 0, rfl, ⟨xe_A_isWithin, xw_37, ⟨by decide, by decide, by decide +kernel⟩, ⟨Nat.le_of_ble_eq_true rfl, Nat.le_of_ble_eq_true rfl⟩, rfl, rfl⟩, xw_269, Or.inl xw_268, Or.inl ⟨rfl, uA_isWithin, cA_isWithin l⟩⟩, List.forall_mem_cons.mpr ⟨Or.inr ⟨xy_A_isEnough, xb_A_isEnough, 8, (some .boolean), xr_ 5, 5, 0, 0, [some 1, some 2, some 3, some 4, some 5, some 6, none, none, none], xk_T0, 9, rfl, rfl, ⟨xe_A_isEnough, xw_37, ⟨by decide, by decide, by decide +kernel⟩, ⟨Nat.le_of_ble_eq_true rfl, Nat.le_of_ble_eq_true rfl⟩, rfl, rfl⟩, xw_394, xw_396, xw_1, rfl, rfl, vA_isEnough, Or.inl ⟨rfl, uA_isEnough, cA_isEnough l⟩⟩, fun _ h => absurd h List.not_mem_nil⟩⟩⟩) (n, C) h
def ttA_budget : List (Nat × xm_Q) := [(11, (91, 93, 95, false, "java/lang/IllegalArgumentException", "no such person")), (42, (69, 96, 73, false, "java/lang/IndexOutOfBoundsException", "up or down")), (64, (102, 104, 106, false, "java/lang/IllegalStateException", "something would be left below 0"))]
theorem toA_budget : ∀ q ∈ ttA_budget, xm_thr "AbsenceRows" xt_T xk_ns xh_ss xb_A_budget q.1 q.2 := List.forall_mem_cons.mpr ⟨⟨⟨by decide +kernel, by decide +kernel, by decide +kernel, by decide +kernel, by decide +kernel⟩, by decide, xh_cl_IllegalArgumentException, xh_in_IllegalArgumentException, xh_at_IllegalArgumentException, xh_ot_IllegalArgumentException, List.mem_of_getElem? (i := 2) rfl⟩, List.forall_mem_cons.mpr ⟨⟨⟨by decide +kernel, by decide +kernel, by decide +kernel, by decide +kernel, by decide +kernel⟩, by decide, xh_cl_IndexOutOfBoundsException, xh_in_IndexOutOfBoundsException, xh_at_IndexOutOfBoundsException, xh_ot_IndexOutOfBoundsException, List.mem_of_getElem? (i := 3) rfl⟩, List.forall_mem_cons.mpr ⟨⟨⟨by decide +kernel, by decide +kernel, by decide +kernel, by decide +kernel, by decide +kernel⟩, by decide, xh_cl_IllegalStateException, xh_in_IllegalStateException, xh_at_IllegalStateException, xh_ot_IllegalStateException, List.mem_of_getElem? (i := 4) rfl⟩, fun _ h => absurd h List.not_mem_nil⟩⟩⟩
set_option maxRecDepth 20000 in
set_option maxHeartbeats 4000000 in
theorem cA_budget (l : Launch) (hl : l.stackTraces = false) : xm_Th l xy_A_budget (Cond.code xy_A_budget xb_A_budget 4 none :: xt_T) xr_p "AbsenceRows" xh_ss xk_cl xk_ns xk_tA pA_budget fA_budget ftA_budget := by
  refine xm_mk_th (rt := .int) (fl := xf_A) (ct := tA_budget) (cn := []) (cj := []) (tt := ttA_budget) hl (by decide) xs_A xd_A_budget rfl (Or.inl rfl) (lA_budget l) toA_budget ⟨Nat.le_of_ble_eq_true rfl, Nat.le_of_ble_eq_true rfl, rfl, rfl⟩ (fun _ _ _ _ _ _ _ _ => False) ?_ ?_ ?_ (fun _ _ _ _ _ _ _ _ _ h => h.elim) ?_
  · rintro as M ⟨p, u, d, rfl, hpre⟩; exact Nat.le_of_ble_eq_true rfl
  · rintro as M ⟨p, u, d, rfl, hpre⟩; simp [fA_budget]
  · rintro as M v ⟨p, u, d, rfl, hpre⟩ h; simp [fA_budget] at h
  · rintro as M ⟨p, u, d, rfl, hpre⟩
    refine ⟨600, (And.intro rfl (And.intro rfl (And.intro (Nat.le_of_ble_eq_true rfl) (And.intro (Nat.le_of_ble_eq_true rfl) (And.intro ?g1_c_5 (And.intro (by decide) (And.intro (fun h8 => (And.intro rfl (And.intro (Nat.le_of_ble_eq_true rfl) (And.intro (Nat.le_of_ble_eq_true rfl) (And.intro ?g2_c_26 (And.intro (by decide) (And.intro (fun h29 => ?g3_t_42) (fun h29 => (And.intro rfl (And.intro (Nat.le_of_ble_eq_true rfl) (And.intro (Nat.le_of_ble_eq_true rfl) (And.intro ?g4_c_36 (And.intro (by decide) (And.intro (fun h39 => (And.intro rfl (And.intro (Nat.le_of_ble_eq_true rfl) (And.intro (Nat.le_of_ble_eq_true rfl) (And.intro ?g5_c_58 (And.intro (by decide) (And.intro (fun h61 => (And.intro rfl (And.intro rfl (And.intro rfl (And.intro ?g6_i_83 (And.intro rfl (And.intro rfl (And.intro rfl (And.intro ?g7_i_93 ?g8_r_94))))))))) (fun h61 => ?g9_t_64)))))))) (fun h39 => ?g10_t_42))))))))))))))) (fun h8 => ?g11_t_11))))))))⟩
    case g1_c_5 =>
      exact ⟨_, rfl⟩
    case g2_c_26 =>
      exact ⟨_, _, _, rfl⟩
    case g3_t_42 =>
      refine ⟨rfl, _, rfl, ?_⟩
      simp only [ftA_budget]
      try simp only [xi_0, xi_n0] at *
      grind [xo_t, xo_f, Int32.not_lt, Int32.not_le]
    case g4_c_36 =>
      exact ⟨_, _, _, rfl⟩
    case g5_c_58 =>
      exact ⟨_, _, _, _, _, rfl, xl_has (by decide) hpre.P (xi_n0.mp h8), hpre.K⟩
    case g6_i_83 =>
      exact xl_has (by decide) hpre.P (xi_n0.mp h8)
    case g7_i_93 =>
      exact xl_has (by decide) hpre.P (xi_n0.mp h8)
    case g8_r_94 =>
      refine ⟨?_, rfl, rfl⟩
      simp only [ftA_budget]
      try simp only [xi_0, xi_n0] at *
      grind [xo_t, xo_f, Int32.not_lt, Int32.not_le]
    case g9_t_64 =>
      refine ⟨rfl, _, rfl, ?_⟩
      simp only [ftA_budget]
      try simp only [xi_0, xi_n0] at *
      grind [xo_t, xo_f, Int32.not_lt, Int32.not_le]
    case g10_t_42 =>
      refine ⟨rfl, _, rfl, ?_⟩
      simp only [ftA_budget]
      try simp only [xi_0, xi_n0] at *
      grind [xo_t, xo_f, Int32.not_lt, Int32.not_le]
    case g11_t_11 =>
      refine ⟨rfl, _, rfl, ?_⟩
      simp only [ftA_budget]
      try simp only [xi_0, xi_n0] at *
      grind [xo_t, xo_f, Int32.not_lt, Int32.not_le]
def pA_holiday (as : List Value) (M : xm_M) : Prop := ∃ d : Int32, as = [.ref 0, .int d] ∧ xv_I M
noncomputable def fA_holiday (as : List Value) (M : xm_M) : Option Value × xm_M := match as with
  | [_, .int d] => (none, (xm_up M 7 d.toNatClampNeg 1))
  | _ => (none, M)
noncomputable def ftA_holiday (as : List Value) (M : xm_M) : Option String := match as with
  | [_, .int d] => xo_ (¬ (0 ≤ d ∧ d ≤ 729)) (some "java/lang/IndexOutOfBoundsException") (xo_ (¬ M 7 d.toNatClampNeg = 0) (some "java/lang/IllegalStateException") (none))
  | _ => none
noncomputable def tA_holiday : List (Nat × xm_C) := [(65, sA_isDay)]
theorem lA_holiday (l : Launch) : ∀ n C, (n, C) ∈ tA_holiday → xm_lkS l "AbsenceRows" xt_T xk_ns xr_p xk_cl xk_tA n C ∨ xm_lkV l "AbsenceRows" xt_T xk_ns xr_p xk_cl xk_tA n C := fun n C h => (show ∀ q ∈ tA_holiday, xm_lkS l "AbsenceRows" xt_T xk_ns xr_p xk_cl xk_tA q.1 q.2 ∨ xm_lkV l "AbsenceRows" xt_T xk_ns xr_p xk_cl xk_tA q.1 q.2 from List.forall_mem_cons.mpr ⟨Or.inl ⟨xy_A_isDay, xb_A_isDay, 1, (some .boolean), xr_ 1, rfl, ⟨xe_A_isDay, xw_37, ⟨by decide, by decide, by decide +kernel⟩, ⟨Nat.le_of_ble_eq_true rfl, Nat.le_of_ble_eq_true rfl⟩, rfl, rfl⟩, xw_272, Or.inl xw_271, Or.inl ⟨rfl, uA_isDay, cA_isDay l⟩⟩, fun _ h => absurd h List.not_mem_nil⟩) (n, C) h
def ttA_holiday : List (Nat × xm_Q) := [(7, (69, 118, 73, false, "java/lang/IndexOutOfBoundsException", "no such day")), (29, (102, 124, 106, false, "java/lang/IllegalStateException", "it is a holiday"))]
theorem toA_holiday : ∀ q ∈ ttA_holiday, xm_thr "AbsenceRows" xt_T xk_ns xh_ss xb_A_holiday q.1 q.2 := List.forall_mem_cons.mpr ⟨⟨⟨by decide +kernel, by decide +kernel, by decide +kernel, by decide +kernel, by decide +kernel⟩, by decide, xh_cl_IndexOutOfBoundsException, xh_in_IndexOutOfBoundsException, xh_at_IndexOutOfBoundsException, xh_ot_IndexOutOfBoundsException, List.mem_of_getElem? (i := 7) rfl⟩, List.forall_mem_cons.mpr ⟨⟨⟨by decide +kernel, by decide +kernel, by decide +kernel, by decide +kernel, by decide +kernel⟩, by decide, xh_cl_IllegalStateException, xh_in_IllegalStateException, xh_at_IllegalStateException, xh_ot_IllegalStateException, List.mem_of_getElem? (i := 8) rfl⟩, fun _ h => absurd h List.not_mem_nil⟩⟩
set_option maxRecDepth 20000 in
set_option maxHeartbeats 4000000 in
theorem cA_holiday (l : Launch) (hl : l.stackTraces = false) : xm_Th l xy_A_holiday (Cond.code xy_A_holiday xb_A_holiday 2 none :: xt_T) xr_p "AbsenceRows" xh_ss xk_cl xk_ns xk_tA pA_holiday fA_holiday ftA_holiday := by
  refine xm_mk_th (rt := .int) (fl := xf_A) (ct := tA_holiday) (cn := []) (cj := []) (tt := ttA_holiday) hl (by decide) xs_A xd_A_holiday rfl (Or.inl rfl) (lA_holiday l) toA_holiday ⟨Nat.le_of_ble_eq_true rfl, Nat.le_of_ble_eq_true rfl, rfl, rfl⟩ (fun _ _ _ _ _ _ _ _ => False) ?_ ?_ ?_ (fun _ _ _ _ _ _ _ _ _ h => h.elim) ?_
  · rintro as M ⟨d, rfl, hpre⟩; exact Nat.le_of_ble_eq_true rfl
  · rintro as M ⟨d, rfl, hpre⟩; simp [fA_holiday]
  · rintro as M v ⟨d, rfl, hpre⟩ h; simp [fA_holiday] at h
  · rintro as M ⟨d, rfl, hpre⟩
    refine ⟨600, (And.intro rfl (And.intro (Nat.le_of_ble_eq_true rfl) (And.intro (Nat.le_of_ble_eq_true rfl) (And.intro ?g1_c_1 (And.intro (by decide) (And.intro (fun h4 => (And.intro rfl (And.intro rfl (And.intro rfl (And.intro ?g2_i_25 (And.intro (by decide) (And.intro (fun h26 => (And.intro rfl (And.intro rfl (And.intro ?g3_z_48 (And.intro rfl (And.intro ?g4_i_48 ?g5_r_49)))))) (fun h26 => ?g6_t_29)))))))) (fun h4 => ?g7_t_7)))))))⟩
    case g1_c_1 =>
      exact ⟨_, rfl⟩
    case g2_i_25 =>
      exact xl_day (xi_n0.mp h4)
    case g3_z_48 =>
      rfl
    case g4_i_48 =>
      exact xl_day (xi_n0.mp h4)
    case g5_r_49 =>
      refine ⟨?_, rfl, rfl⟩
      simp only [ftA_holiday]
      try simp only [xi_0, xi_n0] at *
      grind [xo_t, xo_f, Int32.not_lt, Int32.not_le]
    case g6_t_29 =>
      refine ⟨rfl, _, rfl, ?_⟩
      simp only [ftA_holiday]
      try simp only [xi_0, xi_n0] at *
      grind [xo_t, xo_f, Int32.not_lt, Int32.not_le]
    case g7_t_7 =>
      refine ⟨rfl, _, rfl, ?_⟩
      simp only [ftA_holiday]
      try simp only [xi_0, xi_n0] at *
      grind [xo_t, xo_f, Int32.not_lt, Int32.not_le]
def pA_working (as : List Value) (M : xm_M) : Prop := ∃ f t : Int32, as = [.ref 0, .int f, .int t] ∧ xv_I M
noncomputable def fA_working (as : List Value) (M : xm_M) : Option Value × xm_M := match as with
  | [_, .int f, .int t] => ((fC_workingDays [.ref 1, .int f, .int t] M).1, M)
  | _ => (none, M)
noncomputable def ftA_working (as : List Value) (M : xm_M) : Option String := match as with
  | [_, .int f, .int t] => xo_ (¬ ((0 ≤ f ∧ f ≤ 729) ∧ (0 ≤ t ∧ t ≤ 729) ∧ f ≤ t)) (some "java/lang/IndexOutOfBoundsException") (none)
  | _ => none
noncomputable def tA_working : List (Nat × xm_C) := [(126, sA_isSpan), (132, sC_workingDays)]
theorem lA_working (l : Launch) : ∀ n C, (n, C) ∈ tA_working → xm_lkS l "AbsenceRows" xt_T xk_ns xr_p xk_cl xk_tA n C ∨ xm_lkV l "AbsenceRows" xt_T xk_ns xr_p xk_cl xk_tA n C := fun n C h => (show ∀ q ∈ tA_working, xm_lkS l "AbsenceRows" xt_T xk_ns xr_p xk_cl xk_tA q.1 q.2 ∨ xm_lkV l "AbsenceRows" xt_T xk_ns xr_p xk_cl xk_tA q.1 q.2 from List.forall_mem_cons.mpr ⟨Or.inl ⟨xy_A_isSpan, xb_A_isSpan, 2, (some .boolean), xr_ 2, rfl, ⟨xe_A_isSpan, xw_37, ⟨by decide, by decide, by decide +kernel⟩, ⟨Nat.le_of_ble_eq_true rfl, Nat.le_of_ble_eq_true rfl⟩, rfl, rfl⟩, xw_492, Or.inl xw_491, Or.inl ⟨rfl, uA_isSpan, cA_isSpan l⟩⟩, List.forall_mem_cons.mpr ⟨Or.inr ⟨xy_C_workingDays, xb_C_workingDays, 5, (some .int), xr_ 1, 2, 1, 1, [some 7], xk_T1, 1, rfl, rfl, ⟨xe_C_workingDays, xw_38, ⟨by decide, by decide, by decide +kernel⟩, ⟨Nat.le_of_ble_eq_true rfl, Nat.le_of_ble_eq_true rfl⟩, rfl, rfl⟩, xw_495, xw_496, xw_497, rfl, rfl, vC_workingDays, Or.inl ⟨rfl, uC_workingDays, cC_workingDays l⟩⟩, fun _ h => absurd h List.not_mem_nil⟩⟩) (n, C) h
def ttA_working : List (Nat × xm_Q) := [(8, (69, 130, 73, false, "java/lang/IndexOutOfBoundsException", "no such days"))]
theorem toA_working : ∀ q ∈ ttA_working, xm_thr "AbsenceRows" xt_T xk_ns xh_ss xb_A_working q.1 q.2 := List.forall_mem_cons.mpr ⟨⟨⟨by decide +kernel, by decide +kernel, by decide +kernel, by decide +kernel, by decide +kernel⟩, by decide, xh_cl_IndexOutOfBoundsException, xh_in_IndexOutOfBoundsException, xh_at_IndexOutOfBoundsException, xh_ot_IndexOutOfBoundsException, List.mem_of_getElem? (i := 9) rfl⟩, fun _ h => absurd h List.not_mem_nil⟩
set_option maxRecDepth 20000 in
set_option maxHeartbeats 4000000 in
theorem cA_working (l : Launch) (hl : l.stackTraces = false) : xm_Th l xy_A_working (Cond.code xy_A_working xb_A_working 3 (some .int) :: xt_T) xr_p "AbsenceRows" xh_ss xk_cl xk_ns xk_tA pA_working fA_working ftA_working := by
  refine xm_mk_th (rt := .int) (fl := xf_A) (ct := tA_working) (cn := []) (cj := []) (tt := ttA_working) hl (by decide) xs_A xd_A_working rfl (Or.inr rfl) (lA_working l) toA_working ⟨Nat.le_of_ble_eq_true rfl, Nat.le_of_ble_eq_true rfl, rfl, rfl⟩ (fun _ _ _ _ _ _ _ _ => False) ?_ ?_ ?_ (fun _ _ _ _ _ _ _ _ _ h => h.elim) ?_
  · rintro as M ⟨f, t, rfl, hpre⟩; exact Nat.le_of_ble_eq_true rfl
  · rintro as M ⟨f, t, rfl, hpre⟩; simp [fA_working, fC_workingDays]
  · rintro as M v ⟨f, t, rfl, hpre⟩ h; simp [fA_working, fC_workingDays] at h
  · rintro as M ⟨f, t, rfl, hpre⟩
    refine ⟨600, (And.intro rfl (And.intro (Nat.le_of_ble_eq_true rfl) (And.intro (Nat.le_of_ble_eq_true rfl) (And.intro ?g1_c_2 (And.intro (by decide) (And.intro (fun h5 => (And.intro rfl (And.intro rfl (And.intro (Nat.le_of_ble_eq_true rfl) (And.intro (Nat.le_of_ble_eq_true rfl) (And.intro ?g2_c_24 (And.intro ?g3_w_27 ?g4_r_27))))))) (fun h5 => ?g5_t_8)))))))⟩
    case g1_c_2 =>
      exact ⟨_, _, rfl⟩
    case g2_c_24 =>
      have hz := xi_n0.mp h5
      exact ⟨_, _, rfl, xl_span hz.1 hz.2.1 hz.2.2⟩
    case g3_w_27 =>
      first | rfl | exact xi_nb
    case g4_r_27 =>
      refine ⟨?_, rfl, rfl⟩
      simp only [ftA_working]
      try simp only [xi_0, xi_n0] at *
      grind [xo_t, xo_f, Int32.not_lt, Int32.not_le]
    case g5_t_8 =>
      refine ⟨rfl, _, rfl, ?_⟩
      simp only [ftA_working]
      try simp only [xi_0, xi_n0] at *
      grind [xo_t, xo_f, Int32.not_lt, Int32.not_le]
def pA_crew (as : List Value) (M : xm_M) : Prop := ∃ s r : Int32, as = [.ref 0, .int s, .int r] ∧ xv_I M
noncomputable def fA_crew (as : List Value) (M : xm_M) : Option Value × xm_M := match as with
  | [_, .int s, .int r] => ((fW_add [.ref 3, .int s, .int r] M).1, (fW_add [.ref 3, .int s, .int r] M).2)
  | _ => (none, M)
noncomputable def ftA_crew (as : List Value) (M : xm_M) : Option String := match as with
  | [_, .int s, .int r] => xo_ (¬ ((0 ≤ s ∧ s ≤ 255) ∧ (0 ≤ r ∧ r ≤ 20))) (some "java/lang/IndexOutOfBoundsException") (xo_ (6 ≤ M 3 0) (some "java/lang/UnsupportedOperationException") (none))
  | _ => none
noncomputable def tA_crew : List (Nat × xm_C) := [(61, sA_isWithin), (141, sW_add)]
theorem lA_crew (l : Launch) : ∀ n C, (n, C) ∈ tA_crew → xm_lkS l "AbsenceRows" xt_T xk_ns xr_p xk_cl xk_tA n C ∨ xm_lkV l "AbsenceRows" xt_T xk_ns xr_p xk_cl xk_tA n C := fun n C h => (show ∀ q ∈ tA_crew, xm_lkS l "AbsenceRows" xt_T xk_ns xr_p xk_cl xk_tA q.1 q.2 ∨ xm_lkV l "AbsenceRows" xt_T xk_ns xr_p xk_cl xk_tA q.1 q.2 from List.forall_mem_cons.mpr ⟨Or.inl ⟨xy_A_isWithin, xb_A_isWithin, 3, (some .boolean), xr_ 0, rfl, ⟨xe_A_isWithin, xw_37, ⟨by decide, by decide, by decide +kernel⟩, ⟨Nat.le_of_ble_eq_true rfl, Nat.le_of_ble_eq_true rfl⟩, rfl, rfl⟩, xw_269, Or.inl xw_268, Or.inl ⟨rfl, uA_isWithin, cA_isWithin l⟩⟩, List.forall_mem_cons.mpr ⟨Or.inr ⟨xy_W_add, xb_W_add, 3, (some .int), xr_ 0, 2, 3, 3, [none, some 15, some 16, some 17], xk_T3, 4, rfl, rfl, ⟨xe_W_add, xw_40, ⟨by decide, by decide, by decide +kernel⟩, ⟨Nat.le_of_ble_eq_true rfl, Nat.le_of_ble_eq_true rfl⟩, rfl, rfl⟩, xw_508, xw_509, xw_510, rfl, rfl, vW_add, Or.inr ⟨rfl, cW_add l⟩⟩, fun _ h => absurd h List.not_mem_nil⟩⟩) (n, C) h
def ttA_crew : List (Nat × xm_Q) := [(21, (69, 136, 73, false, "java/lang/IndexOutOfBoundsException", "skills or least")), (43, (79, 139, 83, false, "java/lang/UnsupportedOperationException", "no room for a crew"))]
theorem toA_crew : ∀ q ∈ ttA_crew, xm_thr "AbsenceRows" xt_T xk_ns xh_ss xb_A_crew q.1 q.2 := List.forall_mem_cons.mpr ⟨⟨⟨by decide +kernel, by decide +kernel, by decide +kernel, by decide +kernel, by decide +kernel⟩, by decide, xh_cl_IndexOutOfBoundsException, xh_in_IndexOutOfBoundsException, xh_at_IndexOutOfBoundsException, xh_ot_IndexOutOfBoundsException, List.mem_of_getElem? (i := 10) rfl⟩, List.forall_mem_cons.mpr ⟨⟨⟨by decide +kernel, by decide +kernel, by decide +kernel, by decide +kernel, by decide +kernel⟩, by decide, xh_cl_UnsupportedOperationException, xh_in_UnsupportedOperationException, xh_at_UnsupportedOperationException, xh_ot_UnsupportedOperationException, List.mem_of_getElem? (i := 11) rfl⟩, fun _ h => absurd h List.not_mem_nil⟩⟩
set_option maxRecDepth 20000 in
set_option maxHeartbeats 4000000 in
theorem cA_crew (l : Launch) (hl : l.stackTraces = false) : xm_Th l xy_A_crew (Cond.code xy_A_crew xb_A_crew 3 (some .int) :: xt_T) xr_p "AbsenceRows" xh_ss xk_cl xk_ns xk_tA pA_crew fA_crew ftA_crew := by
  refine xm_mk_th (rt := .int) (fl := xf_A) (ct := tA_crew) (cn := []) (cj := []) (tt := ttA_crew) hl (by decide) xs_A xd_A_crew rfl (Or.inr rfl) (lA_crew l) toA_crew ⟨Nat.le_of_ble_eq_true rfl, Nat.le_of_ble_eq_true rfl, rfl, rfl⟩ (fun _ _ _ _ _ _ _ _ => False) ?_ ?_ ?_ (fun _ _ _ _ _ _ _ _ _ h => h.elim) ?_
  · rintro as M ⟨s, r, rfl, hpre⟩; exact Nat.le_of_ble_eq_true rfl
  · rintro as M ⟨s, r, rfl, hpre⟩; simp [fA_crew, fW_add]
  · rintro as M v ⟨s, r, rfl, hpre⟩ h; simp [fA_crew, fW_add] at h
  · rintro as M ⟨s, r, rfl, hpre⟩
    refine ⟨600, (And.intro rfl (And.intro (Nat.le_of_ble_eq_true rfl) (And.intro (Nat.le_of_ble_eq_true rfl) (And.intro ?g1_c_5 (And.intro (by decide) (And.intro (fun h8 => ?g2_t_21) (fun h8 => (And.intro rfl (And.intro (Nat.le_of_ble_eq_true rfl) (And.intro (Nat.le_of_ble_eq_true rfl) (And.intro ?g3_c_15 (And.intro (by decide) (And.intro (fun h18 => (And.intro rfl (And.intro rfl (And.intro (by decide) (And.intro (fun h40 => (And.intro rfl (And.intro rfl (And.intro (Nat.le_of_ble_eq_true rfl) (And.intro (Nat.le_of_ble_eq_true rfl) (And.intro ?g4_c_59 (And.intro ?g5_w_62 ?g6_r_62))))))) (fun h40 => ?g7_t_43)))))) (fun h18 => ?g8_t_21))))))))))))))⟩
    case g1_c_5 =>
      exact ⟨_, _, _, rfl⟩
    case g2_t_21 =>
      refine ⟨rfl, _, rfl, ?_⟩
      simp only [ftA_crew]
      try simp only [xi_0, xi_n0] at *
      grind [xo_t, xo_f, Int32.not_lt, Int32.not_le]
    case g3_c_15 =>
      exact ⟨_, _, _, rfl⟩
    case g4_c_59 =>
      exact ⟨_, _, rfl, xl_room (by decide) rfl hpre.W (Int32.not_le.mpr h40)⟩
    case g5_w_62 =>
      first | rfl | exact xi_nb
    case g6_r_62 =>
      refine ⟨?_, rfl, rfl⟩
      simp only [ftA_crew]
      try simp only [xi_0, xi_n0] at *
      grind [xo_t, xo_f, Int32.not_lt, Int32.not_le]
    case g7_t_43 =>
      refine ⟨rfl, _, rfl, ?_⟩
      simp only [ftA_crew]
      try simp only [xi_0, xi_n0] at *
      grind [xo_t, xo_f, Int32.not_lt, Int32.not_le]
    case g8_t_21 =>
      refine ⟨rfl, _, rfl, ?_⟩
      simp only [ftA_crew]
      try simp only [xi_0, xi_n0] at *
      grind [xo_t, xo_f, Int32.not_lt, Int32.not_le]
def pA_member (as : List Value) (M : xm_M) : Prop := ∃ w p b : Int32, as = [.ref 0, .int w, .int p, .int b] ∧ (b = 0 ∨ b = 1) ∧ xv_I M
noncomputable def fA_member (as : List Value) (M : xm_M) : Option Value × xm_M := match as with
  | [_, .int w, .int p, .int b] => (some (.int (xd_bc (M 17 w.toNatClampNeg ^^^ (1 <<< (p &&& 31))))), (xm_up M 17 w.toNatClampNeg (M 17 w.toNatClampNeg ^^^ (1 <<< (p &&& 31)))))
  | _ => (none, M)
noncomputable def ftA_member (as : List Value) (M : xm_M) : Option String := match as with
  | [_, .int w, .int p, .int b] => xo_ (¬ ((0 ≤ w ∧ w ≤ M 3 0 - 1) ∧ (0 ≤ p ∧ p ≤ M 2 0 - 1))) (some "java/lang/IllegalArgumentException") (xo_ (xi_b (¬ M 17 w.toNatClampNeg &&& ((1 : Int32) <<< (p &&& 31)) = 0) = b) (some "java/lang/IllegalStateException") (none))
  | _ => none
noncomputable def tA_member : List (Nat × xm_C) := [(143, sW_has), (88, sP_has), (149, sA_holds), (154, sA_only), (158, sI_bitCount)]
theorem lA_member (l : Launch) : ∀ n C, (n, C) ∈ tA_member → xm_lkS l "AbsenceRows" xt_T xk_ns xr_p xk_cl xk_tA n C ∨ xm_lkV l "AbsenceRows" xt_T xk_ns xr_p xk_cl xk_tA n C := fun n C h => (show ∀ q ∈ tA_member, xm_lkS l "AbsenceRows" xt_T xk_ns xr_p xk_cl xk_tA q.1 q.2 ∨ xm_lkV l "AbsenceRows" xt_T xk_ns xr_p xk_cl xk_tA q.1 q.2 from List.forall_mem_cons.mpr ⟨Or.inr ⟨xy_W_has, xb_W_has, 2, (some .boolean), xr_ 1, 1, 3, 3, [none, some 15, some 16, some 17], xk_T3, 4, rfl, rfl, ⟨xe_W_has, xw_40, ⟨by decide, by decide, by decide +kernel⟩, ⟨Nat.le_of_ble_eq_true rfl, Nat.le_of_ble_eq_true rfl⟩, rfl, rfl⟩, xw_519, xw_520, xw_521, rfl, rfl, vW_has, Or.inl ⟨rfl, uW_has, cW_has l⟩⟩, List.forall_mem_cons.mpr ⟨Or.inr ⟨xy_P_has, xb_P_has, 2, (some .boolean), xr_ 1, 1, 2, 2, [none, some 8, some 9, some 10, some 11, some 12, some 13, some 14], xk_T2, 8, rfl, rfl, ⟨xe_P_has, xw_39, ⟨by decide, by decide, by decide +kernel⟩, ⟨Nat.le_of_ble_eq_true rfl, Nat.le_of_ble_eq_true rfl⟩, rfl, rfl⟩, xw_372, xw_373, xw_374, rfl, rfl, vP_has, Or.inl ⟨rfl, uP_has, cP_has l⟩⟩, List.forall_mem_cons.mpr ⟨Or.inl ⟨xy_A_holds, xb_A_holds, 2, (some .boolean), xr_ 1, rfl, ⟨xe_A_holds, xw_37, ⟨by decide, by decide, by decide +kernel⟩, ⟨Nat.le_of_ble_eq_true rfl, Nat.le_of_ble_eq_true rfl⟩, rfl, rfl⟩, xw_526, Or.inl xw_525, Or.inl ⟨rfl, uA_holds, cA_holds l⟩⟩, List.forall_mem_cons.mpr ⟨Or.inl ⟨xy_A_only, xb_A_only, 1, (some .int), xr_ 0, rfl, ⟨xe_A_only, xw_37, ⟨by decide, by decide, by decide +kernel⟩, ⟨Nat.le_of_ble_eq_true rfl, Nat.le_of_ble_eq_true rfl⟩, rfl, rfl⟩, xw_529, Or.inl xw_528, Or.inl ⟨rfl, uA_only, cA_only l⟩⟩, List.forall_mem_cons.mpr ⟨Or.inl ⟨xy_I_bitCount, xb_I_bitCount, 1, (some .int), xr_ 0, rfl, ⟨xe_I_bitCount, xw_53, ⟨by decide, by decide, by decide +kernel⟩, ⟨Nat.le_of_ble_eq_true rfl, Nat.le_of_ble_eq_true rfl⟩, rfl, rfl⟩, xw_533, Or.inl xw_532, Or.inl ⟨rfl, uI_bitCount, cI_bitCount l⟩⟩, fun _ h => absurd h List.not_mem_nil⟩⟩⟩⟩⟩) (n, C) h
def ttA_member : List (Nat × xm_Q) := [(22, (91, 144, 95, false, "java/lang/IllegalArgumentException", "no such crew or person")), (49, (102, 152, 106, false, "java/lang/IllegalStateException", "it is so"))]
theorem toA_member : ∀ q ∈ ttA_member, xm_thr "AbsenceRows" xt_T xk_ns xh_ss xb_A_member q.1 q.2 := List.forall_mem_cons.mpr ⟨⟨⟨by decide +kernel, by decide +kernel, by decide +kernel, by decide +kernel, by decide +kernel⟩, by decide, xh_cl_IllegalArgumentException, xh_in_IllegalArgumentException, xh_at_IllegalArgumentException, xh_ot_IllegalArgumentException, List.mem_of_getElem? (i := 12) rfl⟩, List.forall_mem_cons.mpr ⟨⟨⟨by decide +kernel, by decide +kernel, by decide +kernel, by decide +kernel, by decide +kernel⟩, by decide, xh_cl_IllegalStateException, xh_in_IllegalStateException, xh_at_IllegalStateException, xh_ot_IllegalStateException, List.mem_of_getElem? (i := 13) rfl⟩, fun _ h => absurd h List.not_mem_nil⟩⟩
set_option maxRecDepth 20000 in
set_option maxHeartbeats 4000000 in
theorem cA_member (l : Launch) (hl : l.stackTraces = false) : xm_Th l xy_A_member (Cond.code xy_A_member xb_A_member 4 (some .int) :: xt_T) xr_p "AbsenceRows" xh_ss xk_cl xk_ns xk_tA pA_member fA_member ftA_member := by
  refine xm_mk_th (rt := .int) (fl := xf_A) (ct := tA_member) (cn := []) (cj := []) (tt := ttA_member) hl (by decide) xs_A xd_A_member rfl (Or.inr rfl) (lA_member l) toA_member ⟨Nat.le_of_ble_eq_true rfl, Nat.le_of_ble_eq_true rfl, rfl, rfl⟩ (fun _ _ _ _ _ _ _ _ => False) ?_ ?_ ?_ (fun _ _ _ _ _ _ _ _ _ h => h.elim) ?_
  · rintro as M ⟨w, p, b, rfl, ⟨hb, hpre⟩⟩; exact Nat.le_of_ble_eq_true rfl
  · rintro as M ⟨w, p, b, rfl, ⟨hb, hpre⟩⟩; simp [fA_member]
  · rintro as M v ⟨w, p, b, rfl, ⟨hb, hpre⟩⟩ h; simp [fA_member] at h
  · rintro as M ⟨w, p, b, rfl, ⟨hb, hpre⟩⟩
    refine ⟨600, (And.intro rfl (And.intro rfl (And.intro (Nat.le_of_ble_eq_true rfl) (And.intro (Nat.le_of_ble_eq_true rfl) (And.intro ?g1_c_5 (And.intro (by decide) (And.intro (fun h8 => ?g2_t_22) (fun h8 => (And.intro rfl (And.intro rfl (And.intro (Nat.le_of_ble_eq_true rfl) (And.intro (Nat.le_of_ble_eq_true rfl) (And.intro ?g3_c_16 (And.intro (by decide) (And.intro (fun h19 => (And.intro rfl (And.intro rfl (And.intro rfl (And.intro ?g4_i_40 (And.intro rfl (And.intro (Nat.le_of_ble_eq_true rfl) (And.intro (Nat.le_of_ble_eq_true rfl) (And.intro ?g5_c_42 (And.intro (by decide) (And.intro (fun h46 => (And.intro rfl (And.intro rfl (And.intro rfl (And.intro ?g6_i_68 (And.intro rfl (And.intro (Nat.le_of_ble_eq_true rfl) (And.intro (Nat.le_of_ble_eq_true rfl) (And.intro ?g7_c_70 (And.intro rfl (And.intro ?g8_i_74 (And.intro rfl (And.intro rfl (And.intro rfl (And.intro ?g9_i_83 (And.intro rfl (And.intro (Nat.le_of_ble_eq_true rfl) (And.intro (Nat.le_of_ble_eq_true rfl) (And.intro ?g10_c_84 (And.intro ?g11_w_87 ?g12_r_87)))))))))))))))))))) (fun h46 => ?g13_t_49)))))))))))) (fun h19 => ?g14_t_22))))))))))))))))⟩
    case g1_c_5 =>
      exact ⟨_, rfl⟩
    case g2_t_22 =>
      refine ⟨rfl, _, rfl, ?_⟩
      simp only [ftA_member]
      try simp only [xi_0, xi_n0] at *
      grind [xo_t, xo_f, Int32.not_lt, Int32.not_le]
    case g3_c_16 =>
      exact ⟨_, rfl⟩
    case g4_i_40 =>
      exact xl_has (by decide) hpre.W (xi_n0.mp h8)
    case g5_c_42 =>
      exact ⟨_, _, rfl⟩
    case g6_i_68 =>
      exact xl_has (by decide) hpre.W (xi_n0.mp h8)
    case g7_c_70 =>
      exact ⟨_, rfl⟩
    case g8_i_74 =>
      exact xl_has (by decide) hpre.W (xi_n0.mp h8)
    case g9_i_83 =>
      exact xl_has (by decide) hpre.W (xi_n0.mp h8)
    case g10_c_84 =>
      exact ⟨_, rfl⟩
    case g11_w_87 =>
      first | rfl | exact xi_nb
    case g12_r_87 =>
      refine ⟨?_, ?_, rfl⟩
      · simp only [ftA_member]
        rw [xo_f (fun z => z ⟨xi_n0.mp h8, xi_n0.mp h19⟩), xo_f (by assumption)]
      · simp [fA_member, xm_up]
    case g13_t_49 =>
      refine ⟨rfl, _, rfl, ?_⟩
      simp only [ftA_member]
      try simp only [xi_0, xi_n0] at *
      grind [xo_t, xo_f, Int32.not_lt, Int32.not_le]
    case g14_t_22 =>
      refine ⟨rfl, _, rfl, ?_⟩
      simp only [ftA_member]
      try simp only [xi_0, xi_n0] at *
      grind [xo_t, xo_f, Int32.not_lt, Int32.not_le]
def pA_ask (as : List Value) (M : xm_M) : Prop := ∃ p k f t h : Int32, as = [.ref 0, .int p, .int k, .int f, .int t, .int h] ∧ xv_I M
noncomputable def fA_ask (as : List Value) (M : xm_M) : Option Value × xm_M := match as with
  | [_, .int p, .int k, .int f, .int t, .int h] => ((fK_add [.ref 4, .int p, .int k, .int f, .int t, .int h] M).1, (fK_add [.ref 4, .int p, .int k, .int f, .int t, .int h] M).2)
  | _ => (none, M)
noncomputable def ftA_ask (as : List Value) (M : xm_M) : Option String := match as with
  | [_, .int p, .int k, .int f, .int t, .int h] => xo_ (¬ ((0 ≤ p ∧ p ≤ M 2 0 - 1) ∧ (0 ≤ k ∧ k ≤ 2))) (some "java/lang/IllegalArgumentException") (xo_ (¬ (((0 ≤ f ∧ f ≤ 729) ∧ (0 ≤ t ∧ t ≤ 729) ∧ f ≤ t) ∧ f / 365 = t / 365 ∧ ((0 ≤ h ∧ h ≤ 3) ∧ ¬ (h = 3 ∧ f = t)))) (some "java/lang/IndexOutOfBoundsException") (xo_ (∃ i, i < (M 4 0).toNatClampNeg ∧ M 18 i = p ∧ ¬ M 23 i = 3 ∧ M 20 i ≤ t ∧ f ≤ M 21 i) (some "java/lang/IllegalStateException") (xo_ (k = 0 ∧ ¬ xd_en M (M 11 p.toNatClampNeg) (M 12 p.toNatClampNeg) p (xi_x (f / 365 = 0) (xd_hd (M 7) f t h) 0) (xd_hd (M 7) f t h - xi_x (f / 365 = 0) (xd_hd (M 7) f t h) 0)) (some "java/lang/IllegalStateException") (xo_ (80 ≤ M 4 0) (some "java/lang/UnsupportedOperationException") (none)))))
  | _ => none
noncomputable def tA_ask : List (Nat × xm_C) := [(88, sP_has), (61, sA_isWithin), (126, sA_isSpan), (165, sA_yearOf), (168, sA_areHalves), (173, sK_overlap), (178, sA_isEnoughFor), (187, sK_add)]
theorem lA_ask (l : Launch) : ∀ n C, (n, C) ∈ tA_ask → xm_lkS l "AbsenceRows" xt_T xk_ns xr_p xk_cl xk_tA n C ∨ xm_lkV l "AbsenceRows" xt_T xk_ns xr_p xk_cl xk_tA n C := fun n C h => (show ∀ q ∈ tA_ask, xm_lkS l "AbsenceRows" xt_T xk_ns xr_p xk_cl xk_tA q.1 q.2 ∨ xm_lkV l "AbsenceRows" xt_T xk_ns xr_p xk_cl xk_tA q.1 q.2 from List.forall_mem_cons.mpr ⟨Or.inr ⟨xy_P_has, xb_P_has, 2, (some .boolean), xr_ 1, 1, 2, 2, [none, some 8, some 9, some 10, some 11, some 12, some 13, some 14], xk_T2, 8, rfl, rfl, ⟨xe_P_has, xw_39, ⟨by decide, by decide, by decide +kernel⟩, ⟨Nat.le_of_ble_eq_true rfl, Nat.le_of_ble_eq_true rfl⟩, rfl, rfl⟩, xw_372, xw_373, xw_374, rfl, rfl, vP_has, Or.inl ⟨rfl, uP_has, cP_has l⟩⟩, List.forall_mem_cons.mpr ⟨Or.inl ⟨xy_A_isWithin, xb_A_isWithin, 3, (some .boolean), xr_ 0, rfl, ⟨xe_A_isWithin, xw_37, ⟨by decide, by decide, by decide +kernel⟩, ⟨Nat.le_of_ble_eq_true rfl, Nat.le_of_ble_eq_true rfl⟩, rfl, rfl⟩, xw_269, Or.inl xw_268, Or.inl ⟨rfl, uA_isWithin, cA_isWithin l⟩⟩, List.forall_mem_cons.mpr ⟨Or.inl ⟨xy_A_isSpan, xb_A_isSpan, 2, (some .boolean), xr_ 2, rfl, ⟨xe_A_isSpan, xw_37, ⟨by decide, by decide, by decide +kernel⟩, ⟨Nat.le_of_ble_eq_true rfl, Nat.le_of_ble_eq_true rfl⟩, rfl, rfl⟩, xw_492, Or.inl xw_491, Or.inl ⟨rfl, uA_isSpan, cA_isSpan l⟩⟩, List.forall_mem_cons.mpr ⟨Or.inl ⟨xy_A_yearOf, xb_A_yearOf, 1, (some .int), xr_ 0, rfl, ⟨xe_A_yearOf, xw_37, ⟨by decide, by decide, by decide +kernel⟩, ⟨Nat.le_of_ble_eq_true rfl, Nat.le_of_ble_eq_true rfl⟩, rfl, rfl⟩, xw_411, Or.inl xw_410, Or.inl ⟨rfl, uA_yearOf, cA_yearOf l⟩⟩, List.forall_mem_cons.mpr ⟨Or.inl ⟨xy_A_areHalves, xb_A_areHalves, 3, (some .boolean), xr_ 1, rfl, ⟨xe_A_areHalves, xw_37, ⟨by decide, by decide, by decide +kernel⟩, ⟨Nat.le_of_ble_eq_true rfl, Nat.le_of_ble_eq_true rfl⟩, rfl, rfl⟩, xw_547, Or.inl xw_546, Or.inl ⟨rfl, uA_areHalves, cA_areHalves l⟩⟩, List.forall_mem_cons.mpr ⟨Or.inr ⟨xy_K_overlap, xb_K_overlap, 5, (some .boolean), xr_ 0, 3, 4, 4, [none, some 18, some 19, some 20, some 21, some 22, some 23, some 24], xk_T4, 8, rfl, rfl, ⟨xe_K_overlap, xw_41, ⟨by decide, by decide, by decide +kernel⟩, ⟨Nat.le_of_ble_eq_true rfl, Nat.le_of_ble_eq_true rfl⟩, rfl, rfl⟩, xw_550, xw_551, xw_552, rfl, rfl, vK_overlap, Or.inl ⟨rfl, uK_overlap, cK_overlap l⟩⟩, List.forall_mem_cons.mpr ⟨Or.inr ⟨xy_A_isEnoughFor, xb_A_isEnoughFor, 7, (some .boolean), xr_ 6, 4, 0, 0, [some 1, some 2, some 3, some 4, some 5, some 6, none, none, none], xk_T0, 9, rfl, rfl, ⟨xe_A_isEnoughFor, xw_37, ⟨by decide, by decide, by decide +kernel⟩, ⟨Nat.le_of_ble_eq_true rfl, Nat.le_of_ble_eq_true rfl⟩, rfl, rfl⟩, xw_555, xw_557, xw_6, rfl, rfl, vA_isEnoughFor, Or.inl ⟨rfl, uA_isEnoughFor, cA_isEnoughFor l⟩⟩, List.forall_mem_cons.mpr ⟨Or.inr ⟨xy_K_add, xb_K_add, 6, (some .int), xr_ 0, 5, 4, 4, [none, some 18, some 19, some 20, some 21, some 22, some 23, some 24], xk_T4, 8, rfl, rfl, ⟨xe_K_add, xw_41, ⟨by decide, by decide, by decide +kernel⟩, ⟨Nat.le_of_ble_eq_true rfl, Nat.le_of_ble_eq_true rfl⟩, rfl, rfl⟩, xw_561, xw_562, xw_563, rfl, rfl, vK_add, Or.inr ⟨rfl, cK_add l⟩⟩, fun _ h => absurd h List.not_mem_nil⟩⟩⟩⟩⟩⟩⟩⟩) (n, C) h
def ttA_ask : List (Nat × xm_Q) := [(20, (91, 163, 95, false, "java/lang/IllegalArgumentException", "no such person or kind")), (62, (69, 171, 73, false, "java/lang/IndexOutOfBoundsException", "days or halves")), (86, (102, 176, 106, false, "java/lang/IllegalStateException", "a day of it is one of another ask")), (113, (102, 182, 106, false, "java/lang/IllegalStateException", "less than 0 would be left")), (135, (79, 185, 83, false, "java/lang/UnsupportedOperationException", "no room for an ask"))]
theorem toA_ask : ∀ q ∈ ttA_ask, xm_thr "AbsenceRows" xt_T xk_ns xh_ss xb_A_ask q.1 q.2 := List.forall_mem_cons.mpr ⟨⟨⟨by decide +kernel, by decide +kernel, by decide +kernel, by decide +kernel, by decide +kernel⟩, by decide, xh_cl_IllegalArgumentException, xh_in_IllegalArgumentException, xh_at_IllegalArgumentException, xh_ot_IllegalArgumentException, List.mem_of_getElem? (i := 14) rfl⟩, List.forall_mem_cons.mpr ⟨⟨⟨by decide +kernel, by decide +kernel, by decide +kernel, by decide +kernel, by decide +kernel⟩, by decide, xh_cl_IndexOutOfBoundsException, xh_in_IndexOutOfBoundsException, xh_at_IndexOutOfBoundsException, xh_ot_IndexOutOfBoundsException, List.mem_of_getElem? (i := 15) rfl⟩, List.forall_mem_cons.mpr ⟨⟨⟨by decide +kernel, by decide +kernel, by decide +kernel, by decide +kernel, by decide +kernel⟩, by decide, xh_cl_IllegalStateException, xh_in_IllegalStateException, xh_at_IllegalStateException, xh_ot_IllegalStateException, List.mem_of_getElem? (i := 16) rfl⟩, List.forall_mem_cons.mpr ⟨⟨⟨by decide +kernel, by decide +kernel, by decide +kernel, by decide +kernel, by decide +kernel⟩, by decide, xh_cl_IllegalStateException, xh_in_IllegalStateException, xh_at_IllegalStateException, xh_ot_IllegalStateException, List.mem_of_getElem? (i := 17) rfl⟩, List.forall_mem_cons.mpr ⟨⟨⟨by decide +kernel, by decide +kernel, by decide +kernel, by decide +kernel, by decide +kernel⟩, by decide, xh_cl_UnsupportedOperationException, xh_in_UnsupportedOperationException, xh_at_UnsupportedOperationException, xh_ot_UnsupportedOperationException, List.mem_of_getElem? (i := 18) rfl⟩, fun _ h => absurd h List.not_mem_nil⟩⟩⟩⟩⟩
set_option maxRecDepth 20000 in
set_option maxHeartbeats 4000000 in
theorem cA_ask (l : Launch) (hl : l.stackTraces = false) : xm_Th l xy_A_ask (Cond.code xy_A_ask xb_A_ask 6 (some .int) :: xt_T) xr_p "AbsenceRows" xh_ss xk_cl xk_ns xk_tA pA_ask fA_ask ftA_ask := by
  refine xm_mk_th (rt := .int) (fl := xf_A) (ct := tA_ask) (cn := []) (cj := []) (tt := ttA_ask) hl (by decide) xs_A xd_A_ask rfl (Or.inr rfl) (lA_ask l) toA_ask ⟨Nat.le_of_ble_eq_true rfl, Nat.le_of_ble_eq_true rfl, rfl, rfl⟩ (fun _ _ _ _ _ _ _ _ => False) ?_ ?_ ?_ (fun _ _ _ _ _ _ _ _ _ h => h.elim) ?_
  · rintro as M ⟨p, k, f, t, h, rfl, hpre⟩; exact Nat.le_of_ble_eq_true rfl
  · rintro as M ⟨p, k, f, t, h, rfl, hpre⟩; simp [fA_ask, fK_add]
  · rintro as M v ⟨p, k, f, t, h, rfl, hpre⟩ h; simp [fA_ask, fK_add] at h
  · rintro as M ⟨p, k, f, t, h, rfl, hpre⟩
    refine ⟨600, (And.intro rfl (And.intro rfl (And.intro (Nat.le_of_ble_eq_true rfl) (And.intro (Nat.le_of_ble_eq_true rfl) (And.intro ?g1_c_5 (And.intro (by decide) (And.intro (fun h8 => ?g2_t_20) (fun h8 => (And.intro rfl (And.intro (Nat.le_of_ble_eq_true rfl) (And.intro (Nat.le_of_ble_eq_true rfl) (And.intro ?g3_c_14 (And.intro (by decide) (And.intro (fun h17 => (And.intro rfl (And.intro (Nat.le_of_ble_eq_true rfl) (And.intro (Nat.le_of_ble_eq_true rfl) (And.intro ?g4_c_33 (And.intro (by decide) (And.intro (fun h36 => ?g5_t_62) (fun h36 => (And.intro rfl (And.intro (Nat.le_of_ble_eq_true rfl) (And.intro (Nat.le_of_ble_eq_true rfl) (And.intro ?g6_c_40 (And.intro rfl (And.intro (Nat.le_of_ble_eq_true rfl) (And.intro (Nat.le_of_ble_eq_true rfl) (And.intro ?g7_c_45 (And.intro (by decide) (And.intro (fun h48 => ?g8_t_62) (fun h48 => (And.intro rfl (And.intro (Nat.le_of_ble_eq_true rfl) (And.intro (Nat.le_of_ble_eq_true rfl) (And.intro ?g9_c_56 (And.intro (by decide) (And.intro (fun h59 => (And.intro rfl (And.intro rfl (And.intro (Nat.le_of_ble_eq_true rfl) (And.intro (Nat.le_of_ble_eq_true rfl) (And.intro ?g10_c_80 (And.intro (by decide) (And.intro (fun h83 => (And.intro (by decide) (And.intro (fun h97 => (And.intro rfl (And.intro rfl (And.intro (by decide) (And.intro (fun h132 => (And.intro rfl (And.intro rfl (And.intro (Nat.le_of_ble_eq_true rfl) (And.intro (Nat.le_of_ble_eq_true rfl) (And.intro ?g11_c_156 (And.intro ?g12_w_159 ?g13_r_159))))))) (fun h132 => ?g14_t_135)))))) (fun h97 => (And.intro rfl (And.intro (Nat.le_of_ble_eq_true rfl) (And.intro (Nat.le_of_ble_eq_true rfl) (And.intro ?g15_c_107 (And.intro (by decide) (And.intro (fun h110 => (And.intro rfl (And.intro rfl (And.intro (by decide) (And.intro (fun h132 => (And.intro rfl (And.intro rfl (And.intro (Nat.le_of_ble_eq_true rfl) (And.intro (Nat.le_of_ble_eq_true rfl) (And.intro ?g16_c_156 (And.intro ?g17_w_159 ?g18_r_159))))))) (fun h132 => ?g19_t_135)))))) (fun h110 => ?g20_t_113))))))))))) (fun h83 => ?g21_t_86))))))))) (fun h59 => ?g22_t_62)))))))))))))))))))))))))) (fun h17 => ?g23_t_20)))))))))))))))⟩
    case g1_c_5 =>
      exact ⟨_, rfl⟩
    case g2_t_20 =>
      refine ⟨rfl, _, rfl, ?_⟩
      simp only [ftA_ask]
      try simp only [xi_0, xi_n0] at *
      grind [xo_t, xo_f, Int32.not_lt, Int32.not_le]
    case g3_c_14 =>
      exact ⟨_, _, _, rfl⟩
    case g4_c_33 =>
      exact ⟨_, _, rfl⟩
    case g5_t_62 =>
      refine ⟨rfl, _, rfl, ?_⟩
      simp only [ftA_ask]
      try simp only [xi_0, xi_n0] at *
      grind [xo_t, xo_f, Int32.not_lt, Int32.not_le]
    case g6_c_40 =>
      exact ⟨_, rfl⟩
    case g7_c_45 =>
      exact ⟨_, rfl⟩
    case g8_t_62 =>
      refine ⟨rfl, _, rfl, ?_⟩
      simp only [ftA_ask]
      try simp only [xi_0, xi_n0] at *
      grind [xo_t, xo_f, Int32.not_lt, Int32.not_le]
    case g9_c_56 =>
      exact ⟨_, _, _, rfl⟩
    case g10_c_80 =>
      exact ⟨_, _, _, rfl, hpre.A⟩
    case g11_c_156 =>
      exact ⟨_, _, _, _, _, rfl, xl_room (by decide) rfl hpre.A (Int32.not_le.mpr h132)⟩
    case g12_w_159 =>
      first | rfl | exact xi_nb
    case g13_r_159 =>
      refine ⟨?_, rfl, rfl⟩
      simp only [ftA_ask]
      try simp only [xi_0, xi_n0] at *
      grind [xo_t, xo_f, Int32.not_lt, Int32.not_le]
    case g14_t_135 =>
      refine ⟨rfl, _, rfl, ?_⟩
      simp only [ftA_ask]
      try simp only [xi_0, xi_n0] at *
      grind [xo_t, xo_f, Int32.not_lt, Int32.not_le]
    case g15_c_107 =>
      have hz := xi_n0.mp h36
      exact ⟨_, _, _, _, rfl, xl_has (by decide) hpre.P (xi_n0.mp h8), hpre.K, xl_span hz.1 hz.2.1 hz.2.2⟩
    case g16_c_156 =>
      exact ⟨_, _, _, _, _, rfl, xl_room (by decide) rfl hpre.A (Int32.not_le.mpr h132)⟩
    case g17_w_159 =>
      first | rfl | exact xi_nb
    case g18_r_159 =>
      refine ⟨?_, rfl, rfl⟩
      simp only [ftA_ask]
      try simp only [xi_0, xi_n0] at *
      grind [xo_t, xo_f, Int32.not_lt, Int32.not_le]
    case g19_t_135 =>
      refine ⟨rfl, _, rfl, ?_⟩
      simp only [ftA_ask]
      try simp only [xi_0, xi_n0] at *
      grind [xo_t, xo_f, Int32.not_lt, Int32.not_le]
    case g20_t_113 =>
      refine ⟨rfl, _, rfl, ?_⟩
      simp only [ftA_ask]
      try simp only [xi_0, xi_n0] at *
      grind [xo_t, xo_f, Int32.not_lt, Int32.not_le]
    case g21_t_86 =>
      refine ⟨rfl, _, rfl, ?_⟩
      simp only [ftA_ask]
      try simp only [xi_0, xi_n0] at *
      grind [xo_t, xo_f, Int32.not_lt, Int32.not_le]
    case g22_t_62 =>
      refine ⟨rfl, _, rfl, ?_⟩
      simp only [ftA_ask]
      try simp only [xi_0, xi_n0] at *
      grind [xo_t, xo_f, Int32.not_lt, Int32.not_le]
    case g23_t_20 =>
      refine ⟨rfl, _, rfl, ?_⟩
      simp only [ftA_ask]
      try simp only [xi_0, xi_n0] at *
      grind [xo_t, xo_f, Int32.not_lt, Int32.not_le]
def pA_grant (as : List Value) (M : xm_M) : Prop := ∃ a p : Int32, as = [.ref 0, .int a, .int p] ∧ xv_I M
noncomputable def fA_grant (as : List Value) (M : xm_M) : Option Value × xm_M := match as with
  | [_, .int a, .int p] => (some (.int (xi_x (M 19 a.toNatClampNeg = 2 ∨ M 23 a.toNatClampNeg = 1) (xi_x (xd_fd M (M 20 a.toNatClampNeg) (M 21 a.toNatClampNeg) (M 22 a.toNatClampNeg) (M 18 a.toNatClampNeg) = -1) 2 0) 1)), @ite xm_M (M 19 a.toNatClampNeg = 2 ∨ M 23 a.toNatClampNeg = 1) (Classical.propDecidable _) (@ite xm_M (xd_fd M (M 20 a.toNatClampNeg) (M 21 a.toNatClampNeg) (M 22 a.toNatClampNeg) (M 18 a.toNatClampNeg) = -1) (Classical.propDecidable _) ((fK_makeLastStep [.ref 4, .int a, .int p] M).2) ((fH_keep [.ref 5, .int a, .int (xd_fd M (M 20 a.toNatClampNeg) (M 21 a.toNatClampNeg) (M 22 a.toNatClampNeg) (M 18 a.toNatClampNeg)), .int (xd_cl M (M 18 a.toNatClampNeg) (xd_fd M (M 20 a.toNatClampNeg) (M 21 a.toNatClampNeg) (M 22 a.toNatClampNeg) (M 18 a.toNatClampNeg)))] M).2)) ((fK_makeFirstStep [.ref 4, .int a, .int p] M).2))
  | _ => (none, M)
noncomputable def ftA_grant (as : List Value) (M : xm_M) : Option String := match as with
  | [_, .int a, .int p] => xo_ (¬ ((0 ≤ a ∧ a ≤ M 4 0 - 1) ∧ (0 ≤ p ∧ p ≤ M 2 0 - 1))) (some "java/lang/IllegalArgumentException") (xo_ (¬ ((M 23 a.toNatClampNeg = 0 ∨ M 23 a.toNatClampNeg = 1) ∧ ¬ M 24 a.toNatClampNeg = p ∧ M 9 (M 18 a.toNatClampNeg).toNatClampNeg < M 9 p.toNatClampNeg)) (some "java/lang/IllegalStateException") (none))
  | _ => none
noncomputable def tA_grant : List (Nat × xm_C) := [(190, sK_has), (88, sP_has), (193, sK_isOpen), (202, sA_isAbove), (207, sK_isBeforeLastStep), (210, sK_makeFirstStep), (214, sA_firstDayLeftShort), (217, sA_crewLeftShort), (220, sH_keep), (224, sK_makeLastStep)]
theorem lA_grant (l : Launch) : ∀ n C, (n, C) ∈ tA_grant → xm_lkS l "AbsenceRows" xt_T xk_ns xr_p xk_cl xk_tA n C ∨ xm_lkV l "AbsenceRows" xt_T xk_ns xr_p xk_cl xk_tA n C := fun n C h => (show ∀ q ∈ tA_grant, xm_lkS l "AbsenceRows" xt_T xk_ns xr_p xk_cl xk_tA q.1 q.2 ∨ xm_lkV l "AbsenceRows" xt_T xk_ns xr_p xk_cl xk_tA q.1 q.2 from List.forall_mem_cons.mpr ⟨Or.inr ⟨xy_K_has, xb_K_has, 2, (some .boolean), xr_ 1, 1, 4, 4, [none, some 18, some 19, some 20, some 21, some 22, some 23, some 24], xk_T4, 8, rfl, rfl, ⟨xe_K_has, xw_41, ⟨by decide, by decide, by decide +kernel⟩, ⟨Nat.le_of_ble_eq_true rfl, Nat.le_of_ble_eq_true rfl⟩, rfl, rfl⟩, xw_572, xw_573, xw_574, rfl, rfl, vK_has, Or.inl ⟨rfl, uK_has, cK_has l⟩⟩, List.forall_mem_cons.mpr ⟨Or.inr ⟨xy_P_has, xb_P_has, 2, (some .boolean), xr_ 1, 1, 2, 2, [none, some 8, some 9, some 10, some 11, some 12, some 13, some 14], xk_T2, 8, rfl, rfl, ⟨xe_P_has, xw_39, ⟨by decide, by decide, by decide +kernel⟩, ⟨Nat.le_of_ble_eq_true rfl, Nat.le_of_ble_eq_true rfl⟩, rfl, rfl⟩, xw_372, xw_373, xw_374, rfl, rfl, vP_has, Or.inl ⟨rfl, uP_has, cP_has l⟩⟩, List.forall_mem_cons.mpr ⟨Or.inr ⟨xy_K_isOpen, xb_K_isOpen, 2, (some .boolean), xr_ 0, 1, 4, 4, [none, some 18, some 19, some 20, some 21, some 22, some 23, some 24], xk_T4, 8, rfl, rfl, ⟨xe_K_isOpen, xw_41, ⟨by decide, by decide, by decide +kernel⟩, ⟨Nat.le_of_ble_eq_true rfl, Nat.le_of_ble_eq_true rfl⟩, rfl, rfl⟩, xw_578, xw_579, xw_580, rfl, rfl, vK_isOpen, Or.inl ⟨rfl, uK_isOpen, cK_isOpen l⟩⟩, List.forall_mem_cons.mpr ⟨Or.inr ⟨xy_A_isAbove, xb_A_isAbove, 3, (some .boolean), xr_ 0, 2, 0, 0, [some 1, some 2, some 3, some 4, some 5, some 6, none, none, none], xk_T0, 9, rfl, rfl, ⟨xe_A_isAbove, xw_37, ⟨by decide, by decide, by decide +kernel⟩, ⟨Nat.le_of_ble_eq_true rfl, Nat.le_of_ble_eq_true rfl⟩, rfl, rfl⟩, xw_582, xw_584, xw_7, rfl, rfl, vA_isAbove, Or.inl ⟨rfl, uA_isAbove, cA_isAbove l⟩⟩, List.forall_mem_cons.mpr ⟨Or.inr ⟨xy_K_isBeforeLastStep, xb_K_isBeforeLastStep, 2, (some .boolean), xr_ 0, 1, 4, 4, [none, some 18, some 19, some 20, some 21, some 22, some 23, some 24], xk_T4, 8, rfl, rfl, ⟨xe_K_isBeforeLastStep, xw_41, ⟨by decide, by decide, by decide +kernel⟩, ⟨Nat.le_of_ble_eq_true rfl, Nat.le_of_ble_eq_true rfl⟩, rfl, rfl⟩, xw_587, xw_588, xw_589, rfl, rfl, vK_isBeforeLastStep, Or.inl ⟨rfl, uK_isBeforeLastStep, cK_isBeforeLastStep l⟩⟩, List.forall_mem_cons.mpr ⟨Or.inr ⟨xy_K_makeFirstStep, xb_K_makeFirstStep, 3, none, xr_ 0, 2, 4, 4, [none, some 18, some 19, some 20, some 21, some 22, some 23, some 24], xk_T4, 8, rfl, rfl, ⟨xe_K_makeFirstStep, xw_41, ⟨by decide, by decide, by decide +kernel⟩, ⟨Nat.le_of_ble_eq_true rfl, Nat.le_of_ble_eq_true rfl⟩, rfl, rfl⟩, xw_591, xw_592, xw_593, rfl, rfl, vK_makeFirstStep, Or.inr ⟨rfl, cK_makeFirstStep l⟩⟩, List.forall_mem_cons.mpr ⟨Or.inr ⟨xy_A_firstDayLeftShort, xb_A_firstDayLeftShort, 4, (some .int), xr_ 4, 1, 0, 0, [some 1, some 2, some 3, some 4, some 5, some 6, none, none, none], xk_T0, 9, rfl, rfl, ⟨xe_A_firstDayLeftShort, xw_37, ⟨by decide, by decide, by decide +kernel⟩, ⟨Nat.le_of_ble_eq_true rfl, Nat.le_of_ble_eq_true rfl⟩, rfl, rfl⟩, xw_595, xw_597, xw_8, rfl, rfl, vA_firstDayLeftShort, Or.inl ⟨rfl, uA_firstDayLeftShort, cA_firstDayLeftShort l⟩⟩, List.forall_mem_cons.mpr ⟨Or.inr ⟨xy_A_crewLeftShort, xb_A_crewLeftShort, 7, (some .int), xr_ 3, 2, 0, 0, [some 1, some 2, some 3, some 4, some 5, some 6, none, none, none], xk_T0, 9, rfl, rfl, ⟨xe_A_crewLeftShort, xw_37, ⟨by decide, by decide, by decide +kernel⟩, ⟨Nat.le_of_ble_eq_true rfl, Nat.le_of_ble_eq_true rfl⟩, rfl, rfl⟩, xw_601, xw_603, xw_9, rfl, rfl, vA_crewLeftShort, Or.inl ⟨rfl, uA_crewLeftShort, cA_crewLeftShort l⟩⟩, List.forall_mem_cons.mpr ⟨Or.inr ⟨xy_H_keep, xb_H_keep, 4, none, xr_ 0, 3, 5, 5, [none, some 25, some 26, some 27], xk_T5, 4, rfl, rfl, ⟨xe_H_keep, xw_42, ⟨by decide, by decide, by decide +kernel⟩, ⟨Nat.le_of_ble_eq_true rfl, Nat.le_of_ble_eq_true rfl⟩, rfl, rfl⟩, xw_625, xw_626, xw_627, rfl, rfl, vH_keep, Or.inr ⟨rfl, cH_keep l⟩⟩, List.forall_mem_cons.mpr ⟨Or.inr ⟨xy_K_makeLastStep, xb_K_makeLastStep, 3, none, xr_ 0, 2, 4, 4, [none, some 18, some 19, some 20, some 21, some 22, some 23, some 24], xk_T4, 8, rfl, rfl, ⟨xe_K_makeLastStep, xw_41, ⟨by decide, by decide, by decide +kernel⟩, ⟨Nat.le_of_ble_eq_true rfl, Nat.le_of_ble_eq_true rfl⟩, rfl, rfl⟩, xw_629, xw_630, xw_631, rfl, rfl, vK_makeLastStep, Or.inr ⟨rfl, cK_makeLastStep l⟩⟩, fun _ h => absurd h List.not_mem_nil⟩⟩⟩⟩⟩⟩⟩⟩⟩⟩) (n, C) h
def ttA_grant : List (Nat × xm_Q) := [(22, (91, 191, 95, false, "java/lang/IllegalArgumentException", "no such ask or person")), (73, (102, 205, 106, false, "java/lang/IllegalStateException", "no step by this person"))]
theorem toA_grant : ∀ q ∈ ttA_grant, xm_thr "AbsenceRows" xt_T xk_ns xh_ss xb_A_grant q.1 q.2 := List.forall_mem_cons.mpr ⟨⟨⟨by decide +kernel, by decide +kernel, by decide +kernel, by decide +kernel, by decide +kernel⟩, by decide, xh_cl_IllegalArgumentException, xh_in_IllegalArgumentException, xh_at_IllegalArgumentException, xh_ot_IllegalArgumentException, List.mem_of_getElem? (i := 19) rfl⟩, List.forall_mem_cons.mpr ⟨⟨⟨by decide +kernel, by decide +kernel, by decide +kernel, by decide +kernel, by decide +kernel⟩, by decide, xh_cl_IllegalStateException, xh_in_IllegalStateException, xh_at_IllegalStateException, xh_ot_IllegalStateException, List.mem_of_getElem? (i := 20) rfl⟩, fun _ h => absurd h List.not_mem_nil⟩⟩
set_option maxRecDepth 20000 in
set_option maxHeartbeats 4000000 in
theorem cA_grant (l : Launch) (hl : l.stackTraces = false) : xm_Th l xy_A_grant (Cond.code xy_A_grant xb_A_grant 4 (some .int) :: xt_T) xr_p "AbsenceRows" xh_ss xk_cl xk_ns xk_tA pA_grant fA_grant ftA_grant := by
  refine xm_mk_th (rt := .int) (fl := xf_A) (ct := tA_grant) (cn := []) (cj := []) (tt := ttA_grant) hl (by decide) xs_A xd_A_grant rfl (Or.inr rfl) (lA_grant l) toA_grant ⟨Nat.le_of_ble_eq_true rfl, Nat.le_of_ble_eq_true rfl, rfl, rfl⟩ (fun _ _ _ _ _ _ _ _ => False) ?_ ?_ ?_ (fun _ _ _ _ _ _ _ _ _ h => h.elim) ?_
  · rintro as M ⟨a, p, rfl, hpre⟩; exact Nat.le_of_ble_eq_true rfl
  · rintro as M ⟨a, p, rfl, hpre⟩; simp [fA_grant]
  · rintro as M v ⟨a, p, rfl, hpre⟩ h; simp [fA_grant] at h
  · rintro as M ⟨a, p, rfl, hpre⟩
    refine ⟨600, (And.intro rfl (And.intro rfl (And.intro (Nat.le_of_ble_eq_true rfl) (And.intro (Nat.le_of_ble_eq_true rfl) (And.intro ?g1_c_5 (And.intro (by decide) (And.intro (fun h8 => ?g2_t_22) (fun h8 => (And.intro rfl (And.intro rfl (And.intro (Nat.le_of_ble_eq_true rfl) (And.intro (Nat.le_of_ble_eq_true rfl) (And.intro ?g3_c_16 (And.intro (by decide) (And.intro (fun h19 => (And.intro rfl (And.intro rfl (And.intro (Nat.le_of_ble_eq_true rfl) (And.intro (Nat.le_of_ble_eq_true rfl) (And.intro ?g4_c_37 (And.intro (by decide) (And.intro (fun h40 => ?g5_t_73) (fun h40 => (And.intro rfl (And.intro rfl (And.intro rfl (And.intro ?g6_i_51 (And.intro (by decide) (And.intro (fun h53 => ?g7_t_73) (fun h53 => (And.intro rfl (And.intro rfl (And.intro rfl (And.intro ?g8_i_66 (And.intro rfl (And.intro (Nat.le_of_ble_eq_true rfl) (And.intro (Nat.le_of_ble_eq_true rfl) (And.intro ?g9_c_67 (And.intro (by decide) (And.intro (fun h70 => (And.intro rfl (And.intro rfl (And.intro (Nat.le_of_ble_eq_true rfl) (And.intro (Nat.le_of_ble_eq_true rfl) (And.intro ?g10_c_88 (And.intro (by decide) (And.intro (fun h91 => (And.intro rfl (And.intro (Nat.le_of_ble_eq_true rfl) (And.intro (Nat.le_of_ble_eq_true rfl) (And.intro ?g11_c_107 (And.intro (Nat.le_of_ble_eq_true rfl) (And.intro (by decide) (And.intro (fun h113 => (And.intro rfl (And.intro rfl (And.intro (Nat.le_of_ble_eq_true rfl) (And.intro (Nat.le_of_ble_eq_true rfl) (And.intro ?g12_c_147 (And.intro ?g13_w_151 ?g14_r_151))))))) (fun h113 => (And.intro rfl (And.intro rfl (And.intro rfl (And.intro rfl (And.intro ?g15_i_131 (And.intro rfl (And.intro (Nat.le_of_ble_eq_true rfl) (And.intro (Nat.le_of_ble_eq_true rfl) (And.intro ?g16_c_133 (And.intro rfl (And.intro (Nat.le_of_ble_eq_true rfl) (And.intro (Nat.le_of_ble_eq_true rfl) (And.intro ?g17_c_136 (And.intro ?g18_w_140 ?g19_r_140))))))))))))))))))))))) (fun h91 => (And.intro rfl (And.intro rfl (And.intro (Nat.le_of_ble_eq_true rfl) (And.intro (Nat.le_of_ble_eq_true rfl) (And.intro ?g20_c_100 (And.intro ?g21_w_104 ?g22_r_104))))))))))))))) (fun h70 => ?g23_t_73))))))))))))))))))))))))))) (fun h19 => ?g24_t_22))))))))))))))))⟩
    case g1_c_5 =>
      exact ⟨_, rfl⟩
    case g2_t_22 =>
      refine ⟨rfl, _, rfl, ?_⟩
      simp only [ftA_grant]
      try simp only [xi_0, xi_n0] at *
      grind [xo_t, xo_f, Int32.not_lt, Int32.not_le]
    case g3_c_16 =>
      exact ⟨_, rfl⟩
    case g4_c_37 =>
      exact ⟨_, rfl, xl_has (by decide) hpre.A (xi_n0.mp h8)⟩
    case g5_t_73 =>
      refine ⟨rfl, _, rfl, ?_⟩
      simp only [ftA_grant]
      try simp only [xi_0, xi_n0] at *
      grind [xo_t, xo_f, Int32.not_lt, Int32.not_le]
    case g6_i_51 =>
      exact xl_has (by decide) hpre.A (xi_n0.mp h8)
    case g7_t_73 =>
      refine ⟨rfl, _, rfl, ?_⟩
      simp only [ftA_grant]
      try simp only [xi_0, xi_n0] at *
      grind [xo_t, xo_f, Int32.not_lt, Int32.not_le]
    case g8_i_66 =>
      exact xl_has (by decide) hpre.A (xi_n0.mp h8)
    case g9_c_67 =>
      exact ⟨_, _, rfl, xl_has (by decide) hpre.P (xi_n0.mp h19), (hpre.a (xi_n0.mp h8)).2⟩
    case g10_c_88 =>
      exact ⟨_, rfl, xl_has (by decide) hpre.A (xi_n0.mp h8)⟩
    case g11_c_107 =>
      exact ⟨_, rfl, xl_has (by decide) hpre.A (xi_n0.mp h8), (hpre.a (xi_n0.mp h8)).1, hpre.1⟩
    case g12_c_147 =>
      exact ⟨_, _, rfl, xl_has (by decide) hpre.A (xi_n0.mp h8)⟩
    case g13_w_151 =>
      first | rfl | exact xi_nb
    case g14_r_151 =>
      try change xd_fd M (M 20 a.toNatClampNeg) (M 21 a.toNatClampNeg) (M 22 a.toNatClampNeg) (M 18 a.toNatClampNeg) = -1 at h113
      try change ¬ xd_fd M (M 20 a.toNatClampNeg) (M 21 a.toNatClampNeg) (M 22 a.toNatClampNeg) (M 18 a.toNatClampNeg) = -1 at h113
      refine ⟨?_, ?_, ?_⟩
      · simp only [ftA_grant]
        rw [xo_f (fun z => z ⟨xi_n0.mp h8, xi_n0.mp h19⟩), xo_f (fun z => z ⟨xi_n0.mp h40, h53, xi_n0.mp h70⟩)]
      · simp only [fA_grant]
        first | rw [xi_xf (xi_0.mp h91)] | rw [xi_xt (xi_n0.mp h91), xi_xt h113] | rw [xi_xt (xi_n0.mp h91), xi_xf h113]
        all_goals rfl
      · simp only [fA_grant]
        first | rw [if_neg (xi_0.mp h91)] | rw [if_pos (xi_n0.mp h91), if_pos h113] | rw [if_pos (xi_n0.mp h91), if_neg h113]
        all_goals rfl
    case g15_i_131 =>
      exact xl_has (by decide) hpre.A (xi_n0.mp h8)
    case g16_c_133 =>
      exact ⟨_, _, rfl, hpre.1⟩
    case g17_c_136 =>
      exact ⟨_, _, _, rfl, fun z => xl_room (by decide) rfl hpre.H (Int32.not_le.mpr z)⟩
    case g18_w_140 =>
      first | rfl | exact xi_nb
    case g19_r_140 =>
      try change xd_fd M (M 20 a.toNatClampNeg) (M 21 a.toNatClampNeg) (M 22 a.toNatClampNeg) (M 18 a.toNatClampNeg) = -1 at h113
      try change ¬ xd_fd M (M 20 a.toNatClampNeg) (M 21 a.toNatClampNeg) (M 22 a.toNatClampNeg) (M 18 a.toNatClampNeg) = -1 at h113
      refine ⟨?_, ?_, ?_⟩
      · simp only [ftA_grant]
        rw [xo_f (fun z => z ⟨xi_n0.mp h8, xi_n0.mp h19⟩), xo_f (fun z => z ⟨xi_n0.mp h40, h53, xi_n0.mp h70⟩)]
      · simp only [fA_grant]
        first | rw [xi_xf (xi_0.mp h91)] | rw [xi_xt (xi_n0.mp h91), xi_xt h113] | rw [xi_xt (xi_n0.mp h91), xi_xf h113]
        all_goals rfl
      · simp only [fA_grant]
        first | rw [if_neg (xi_0.mp h91)] | rw [if_pos (xi_n0.mp h91), if_pos h113] | rw [if_pos (xi_n0.mp h91), if_neg h113]
        all_goals rfl
    case g20_c_100 =>
      exact ⟨_, _, rfl, xl_has (by decide) hpre.A (xi_n0.mp h8)⟩
    case g21_w_104 =>
      first | rfl | exact xi_nb
    case g22_r_104 =>
      try change xd_fd M (M 20 a.toNatClampNeg) (M 21 a.toNatClampNeg) (M 22 a.toNatClampNeg) (M 18 a.toNatClampNeg) = -1 at h113
      try change ¬ xd_fd M (M 20 a.toNatClampNeg) (M 21 a.toNatClampNeg) (M 22 a.toNatClampNeg) (M 18 a.toNatClampNeg) = -1 at h113
      refine ⟨?_, ?_, ?_⟩
      · simp only [ftA_grant]
        rw [xo_f (fun z => z ⟨xi_n0.mp h8, xi_n0.mp h19⟩), xo_f (fun z => z ⟨xi_n0.mp h40, h53, xi_n0.mp h70⟩)]
      · simp only [fA_grant]
        first | rw [xi_xf (xi_0.mp h91)] | rw [xi_xt (xi_n0.mp h91), xi_xt h113] | rw [xi_xt (xi_n0.mp h91), xi_xf h113]
        all_goals rfl
      · simp only [fA_grant]
        first | rw [if_neg (xi_0.mp h91)] | rw [if_pos (xi_n0.mp h91), if_pos h113] | rw [if_pos (xi_n0.mp h91), if_neg h113]
        all_goals rfl
    case g23_t_73 =>
      refine ⟨rfl, _, rfl, ?_⟩
      simp only [ftA_grant]
      try simp only [xi_0, xi_n0] at *
      grind [xo_t, xo_f, Int32.not_lt, Int32.not_le]
    case g24_t_22 =>
      refine ⟨rfl, _, rfl, ?_⟩
      simp only [ftA_grant]
      try simp only [xi_0, xi_n0] at *
      grind [xo_t, xo_f, Int32.not_lt, Int32.not_le]
def pA_withdraw (as : List Value) (M : xm_M) : Prop := ∃ a : Int32, as = [.ref 0, .int a] ∧ xv_I M
noncomputable def fA_withdraw (as : List Value) (M : xm_M) : Option Value × xm_M := match as with
  | [_, .int a] => (some (.int (xd_hd (M 7) (M 20 a.toNatClampNeg) (M 21 a.toNatClampNeg) (M 22 a.toNatClampNeg))), (xm_up M 23 a.toNatClampNeg 3))
  | _ => (none, M)
noncomputable def ftA_withdraw (as : List Value) (M : xm_M) : Option String := match as with
  | [_, .int a] => xo_ (¬ (0 ≤ a ∧ a ≤ M 4 0 - 1)) (some "java/lang/IllegalArgumentException") (xo_ (M 23 a.toNatClampNeg = 3) (some "java/lang/IllegalStateException") (none))
  | _ => none
noncomputable def tA_withdraw : List (Nat × xm_C) := [(190, sK_has), (234, sA_halfDaysOf)]
theorem lA_withdraw (l : Launch) : ∀ n C, (n, C) ∈ tA_withdraw → xm_lkS l "AbsenceRows" xt_T xk_ns xr_p xk_cl xk_tA n C ∨ xm_lkV l "AbsenceRows" xt_T xk_ns xr_p xk_cl xk_tA n C := fun n C h => (show ∀ q ∈ tA_withdraw, xm_lkS l "AbsenceRows" xt_T xk_ns xr_p xk_cl xk_tA q.1 q.2 ∨ xm_lkV l "AbsenceRows" xt_T xk_ns xr_p xk_cl xk_tA q.1 q.2 from List.forall_mem_cons.mpr ⟨Or.inr ⟨xy_K_has, xb_K_has, 2, (some .boolean), xr_ 1, 1, 4, 4, [none, some 18, some 19, some 20, some 21, some 22, some 23, some 24], xk_T4, 8, rfl, rfl, ⟨xe_K_has, xw_41, ⟨by decide, by decide, by decide +kernel⟩, ⟨Nat.le_of_ble_eq_true rfl, Nat.le_of_ble_eq_true rfl⟩, rfl, rfl⟩, xw_572, xw_573, xw_574, rfl, rfl, vK_has, Or.inl ⟨rfl, uK_has, cK_has l⟩⟩, List.forall_mem_cons.mpr ⟨Or.inr ⟨xy_A_halfDaysOf, xb_A_halfDaysOf, 2, (some .int), xr_ 2, 1, 0, 0, [some 1, some 2, some 3, some 4, some 5, some 6, none, none, none], xk_T0, 9, rfl, rfl, ⟨xe_A_halfDaysOf, xw_37, ⟨by decide, by decide, by decide +kernel⟩, ⟨Nat.le_of_ble_eq_true rfl, Nat.le_of_ble_eq_true rfl⟩, rfl, rfl⟩, xw_413, xw_415, xw_4, rfl, rfl, vA_halfDaysOf, Or.inl ⟨rfl, uA_halfDaysOf, cA_halfDaysOf l⟩⟩, fun _ h => absurd h List.not_mem_nil⟩⟩) (n, C) h
def ttA_withdraw : List (Nat × xm_Q) := [(11, (91, 227, 95, false, "java/lang/IllegalArgumentException", "no such ask")), (34, (102, 232, 106, false, "java/lang/IllegalStateException", "it was withdrawn"))]
theorem toA_withdraw : ∀ q ∈ ttA_withdraw, xm_thr "AbsenceRows" xt_T xk_ns xh_ss xb_A_withdraw q.1 q.2 := List.forall_mem_cons.mpr ⟨⟨⟨by decide +kernel, by decide +kernel, by decide +kernel, by decide +kernel, by decide +kernel⟩, by decide, xh_cl_IllegalArgumentException, xh_in_IllegalArgumentException, xh_at_IllegalArgumentException, xh_ot_IllegalArgumentException, List.mem_of_getElem? (i := 21) rfl⟩, List.forall_mem_cons.mpr ⟨⟨⟨by decide +kernel, by decide +kernel, by decide +kernel, by decide +kernel, by decide +kernel⟩, by decide, xh_cl_IllegalStateException, xh_in_IllegalStateException, xh_at_IllegalStateException, xh_ot_IllegalStateException, List.mem_of_getElem? (i := 22) rfl⟩, fun _ h => absurd h List.not_mem_nil⟩⟩
set_option maxRecDepth 20000 in
set_option maxHeartbeats 4000000 in
theorem cA_withdraw (l : Launch) (hl : l.stackTraces = false) : xm_Th l xy_A_withdraw (Cond.code xy_A_withdraw xb_A_withdraw 2 (some .int) :: xt_T) xr_p "AbsenceRows" xh_ss xk_cl xk_ns xk_tA pA_withdraw fA_withdraw ftA_withdraw := by
  refine xm_mk_th (rt := .int) (fl := xf_A) (ct := tA_withdraw) (cn := []) (cj := []) (tt := ttA_withdraw) hl (by decide) xs_A xd_A_withdraw rfl (Or.inr rfl) (lA_withdraw l) toA_withdraw ⟨Nat.le_of_ble_eq_true rfl, Nat.le_of_ble_eq_true rfl, rfl, rfl⟩ (fun _ _ _ _ _ _ _ _ => False) ?_ ?_ ?_ (fun _ _ _ _ _ _ _ _ _ h => h.elim) ?_
  · rintro as M ⟨a, rfl, hpre⟩; exact Nat.le_of_ble_eq_true rfl
  · rintro as M ⟨a, rfl, hpre⟩; simp [fA_withdraw]
  · rintro as M v ⟨a, rfl, hpre⟩ h; simp [fA_withdraw] at h
  · rintro as M ⟨a, rfl, hpre⟩
    refine ⟨600, (And.intro rfl (And.intro rfl (And.intro (Nat.le_of_ble_eq_true rfl) (And.intro (Nat.le_of_ble_eq_true rfl) (And.intro ?g1_c_5 (And.intro (by decide) (And.intro (fun h8 => (And.intro rfl (And.intro rfl (And.intro rfl (And.intro ?g2_i_29 (And.intro (by decide) (And.intro (fun h31 => (And.intro rfl (And.intro rfl (And.intro rfl (And.intro ?g3_i_53 (And.intro rfl (And.intro (Nat.le_of_ble_eq_true rfl) (And.intro (Nat.le_of_ble_eq_true rfl) (And.intro ?g4_c_56 (And.intro ?g5_w_59 ?g6_r_59)))))))))) (fun h31 => ?g7_t_34)))))))) (fun h8 => ?g8_t_11))))))))⟩
    case g1_c_5 =>
      exact ⟨_, rfl⟩
    case g2_i_29 =>
      exact xl_has (by decide) hpre.A (xi_n0.mp h8)
    case g3_i_53 =>
      exact xl_has (by decide) hpre.A (xi_n0.mp h8)
    case g4_c_56 =>
      exact ⟨_, rfl, xl_has (by decide) hpre.A (xi_n0.mp h8), (hpre.a (xi_n0.mp h8)).1⟩
    case g5_w_59 =>
      first | rfl | exact xi_nb
    case g6_r_59 =>
      refine ⟨?_, rfl, rfl⟩
      simp only [ftA_withdraw]
      try simp only [xi_0, xi_n0] at *
      grind [xo_t, xo_f, Int32.not_lt, Int32.not_le]
    case g7_t_34 =>
      refine ⟨rfl, _, rfl, ?_⟩
      simp only [ftA_withdraw]
      try simp only [xi_0, xi_n0] at *
      grind [xo_t, xo_f, Int32.not_lt, Int32.not_le]
    case g8_t_11 =>
      refine ⟨rfl, _, rfl, ?_⟩
      simp only [ftA_withdraw]
      try simp only [xi_0, xi_n0] at *
      grind [xo_t, xo_f, Int32.not_lt, Int32.not_le]
def pA_askAt (as : List Value) (M : xm_M) : Prop := ∃ a x : Int32, as = [.ref 0, .int a, .int x] ∧ xv_I M
noncomputable def fA_askAt (as : List Value) (M : xm_M) : Option Value × xm_M := match as with
  | [_, .int a, .int x] => (some (.int (xi_x (x = 0) (M 23 a.toNatClampNeg) (xi_x (x = 1) (xd_hd (M 7) (M 20 a.toNatClampNeg) (M 21 a.toNatClampNeg) (M 22 a.toNatClampNeg)) (xi_x (x = 2) (M 24 a.toNatClampNeg) (xi_x (x = 3) (M 18 a.toNatClampNeg) (xi_x (x = 4) (M 19 a.toNatClampNeg) (0))))))), M)
  | _ => (none, M)
noncomputable def ftA_askAt (as : List Value) (M : xm_M) : Option String := match as with
  | [_, .int a, .int x] => xo_ (¬ (0 ≤ a ∧ a ≤ M 4 0 - 1)) (some "java/lang/IllegalArgumentException") (xo_ (¬ (x = 0 ∨ x = 1 ∨ x = 2 ∨ x = 3 ∨ x = 4)) (some "java/lang/IllegalArgumentException") (none))
  | _ => none
noncomputable def tA_askAt : List (Nat × xm_C) := [(190, sK_has), (234, sA_halfDaysOf)]
theorem lA_askAt (l : Launch) : ∀ n C, (n, C) ∈ tA_askAt → xm_lkS l "AbsenceRows" xt_T xk_ns xr_p xk_cl xk_tA n C ∨ xm_lkV l "AbsenceRows" xt_T xk_ns xr_p xk_cl xk_tA n C := fun n C h => (show ∀ q ∈ tA_askAt, xm_lkS l "AbsenceRows" xt_T xk_ns xr_p xk_cl xk_tA q.1 q.2 ∨ xm_lkV l "AbsenceRows" xt_T xk_ns xr_p xk_cl xk_tA q.1 q.2 from List.forall_mem_cons.mpr ⟨Or.inr ⟨xy_K_has, xb_K_has, 2, (some .boolean), xr_ 1, 1, 4, 4, [none, some 18, some 19, some 20, some 21, some 22, some 23, some 24], xk_T4, 8, rfl, rfl, ⟨xe_K_has, xw_41, ⟨by decide, by decide, by decide +kernel⟩, ⟨Nat.le_of_ble_eq_true rfl, Nat.le_of_ble_eq_true rfl⟩, rfl, rfl⟩, xw_572, xw_573, xw_574, rfl, rfl, vK_has, Or.inl ⟨rfl, uK_has, cK_has l⟩⟩, List.forall_mem_cons.mpr ⟨Or.inr ⟨xy_A_halfDaysOf, xb_A_halfDaysOf, 2, (some .int), xr_ 2, 1, 0, 0, [some 1, some 2, some 3, some 4, some 5, some 6, none, none, none], xk_T0, 9, rfl, rfl, ⟨xe_A_halfDaysOf, xw_37, ⟨by decide, by decide, by decide +kernel⟩, ⟨Nat.le_of_ble_eq_true rfl, Nat.le_of_ble_eq_true rfl⟩, rfl, rfl⟩, xw_413, xw_415, xw_4, rfl, rfl, vA_halfDaysOf, Or.inl ⟨rfl, uA_halfDaysOf, cA_halfDaysOf l⟩⟩, fun _ h => absurd h List.not_mem_nil⟩⟩) (n, C) h
def ttA_askAt : List (Nat × xm_Q) := [(11, (91, 227, 95, false, "java/lang/IllegalArgumentException", "no such ask")), (102, (91, 240, 95, false, "java/lang/IllegalArgumentException", "no such what"))]
theorem toA_askAt : ∀ q ∈ ttA_askAt, xm_thr "AbsenceRows" xt_T xk_ns xh_ss xb_A_askAt q.1 q.2 := List.forall_mem_cons.mpr ⟨⟨⟨by decide +kernel, by decide +kernel, by decide +kernel, by decide +kernel, by decide +kernel⟩, by decide, xh_cl_IllegalArgumentException, xh_in_IllegalArgumentException, xh_at_IllegalArgumentException, xh_ot_IllegalArgumentException, List.mem_of_getElem? (i := 21) rfl⟩, List.forall_mem_cons.mpr ⟨⟨⟨by decide +kernel, by decide +kernel, by decide +kernel, by decide +kernel, by decide +kernel⟩, by decide, xh_cl_IllegalArgumentException, xh_in_IllegalArgumentException, xh_at_IllegalArgumentException, xh_ot_IllegalArgumentException, List.mem_of_getElem? (i := 23) rfl⟩, fun _ h => absurd h List.not_mem_nil⟩⟩
set_option maxRecDepth 20000 in
set_option maxHeartbeats 4000000 in
theorem cA_askAt (l : Launch) (hl : l.stackTraces = false) : xm_Th l xy_A_askAt (Cond.code xy_A_askAt xb_A_askAt 3 (some .int) :: xt_T) xr_p "AbsenceRows" xh_ss xk_cl xk_ns xk_tA pA_askAt fA_askAt ftA_askAt := by
  refine xm_mk_th (rt := .int) (fl := xf_A) (ct := tA_askAt) (cn := []) (cj := []) (tt := ttA_askAt) hl (by decide) xs_A xd_A_askAt rfl (Or.inr rfl) (lA_askAt l) toA_askAt ⟨Nat.le_of_ble_eq_true rfl, Nat.le_of_ble_eq_true rfl, rfl, rfl⟩ (fun _ _ _ _ _ _ _ _ => False) ?_ ?_ ?_ (fun _ _ _ _ _ _ _ _ _ h => h.elim) ?_
  · rintro as M ⟨a, x, rfl, hpre⟩; exact Nat.le_of_ble_eq_true rfl
  · rintro as M ⟨a, x, rfl, hpre⟩; simp [fA_askAt]
  · rintro as M v ⟨a, x, rfl, hpre⟩ h; simp [fA_askAt] at h
  · rintro as M ⟨a, x, rfl, hpre⟩
    refine ⟨600, (And.intro rfl (And.intro rfl (And.intro (Nat.le_of_ble_eq_true rfl) (And.intro (Nat.le_of_ble_eq_true rfl) (And.intro ?g1_c_5 (And.intro (by decide) (And.intro (fun h8 => (And.intro (fun h22 => (And.intro (by decide) ?g2_t_102)) (And.intro (by decide) (And.intro (fun h22 => (And.intro (by decide) (And.intro rfl (And.intro rfl (And.intro rfl (And.intro ?g15_i_64 (And.intro ?g16_w_65 ?g17_r_65))))))) (And.intro (fun h22 => (And.intro (by decide) (And.intro rfl (And.intro (Nat.le_of_ble_eq_true rfl) (And.intro (Nat.le_of_ble_eq_true rfl) (And.intro ?g12_c_68 (And.intro ?g13_w_71 ?g14_r_71))))))) (And.intro (fun h22 => (And.intro (by decide) (And.intro rfl (And.intro rfl (And.intro rfl (And.intro ?g9_i_80 (And.intro ?g10_w_81 ?g11_r_81))))))) (And.intro (fun h22 => (And.intro (by decide) (And.intro rfl (And.intro rfl (And.intro rfl (And.intro ?g6_i_90 (And.intro ?g7_w_91 ?g8_r_91))))))) (And.intro (fun h22 => (And.intro (by decide) (And.intro rfl (And.intro rfl (And.intro rfl (And.intro ?g3_i_100 (And.intro ?g4_w_101 ?g5_r_101))))))) True.intro)))))))) (fun h8 => ?g18_t_11))))))))⟩
    case g1_c_5 =>
      exact ⟨_, rfl⟩
    case g2_t_102 =>
      refine ⟨rfl, _, rfl, ?_⟩
      simp only [ftA_askAt]
      rw [xo_f (fun z => z (xi_n0.mp h8)), xo_t (fun z => ?_)]
      have hz : ¬ x = 0 ∧ ¬ x = 1 ∧ ¬ x = 2 ∧ ¬ x = 3 ∧ ¬ x = 4 := ⟨xl_td h22 _, xl_td h22 _, xl_td h22 _, xl_td h22 _, xl_td h22 _⟩
      grind
    case g3_i_100 =>
      exact xl_has (by decide) hpre.A (xi_n0.mp h8)
    case g4_w_101 =>
      first | rfl | exact xi_nb
    case g5_r_101 =>
      have hz := xl_tb h22
      refine ⟨?_, xl_some ?_, rfl⟩
      · simp only [ftA_askAt]
        rw [xo_f (fun z => z (xi_n0.mp h8)), xo_f (fun z => z (by rw [hz]; decide))]
      · subst hz
        simp [xi_x]
        try rfl
    case g6_i_90 =>
      exact xl_has (by decide) hpre.A (xi_n0.mp h8)
    case g7_w_91 =>
      first | rfl | exact xi_nb
    case g8_r_91 =>
      have hz := xl_tb h22
      refine ⟨?_, xl_some ?_, rfl⟩
      · simp only [ftA_askAt]
        rw [xo_f (fun z => z (xi_n0.mp h8)), xo_f (fun z => z (by rw [hz]; decide))]
      · subst hz
        simp [xi_x]
        try rfl
    case g9_i_80 =>
      exact xl_has (by decide) hpre.A (xi_n0.mp h8)
    case g10_w_81 =>
      first | rfl | exact xi_nb
    case g11_r_81 =>
      have hz := xl_tb h22
      refine ⟨?_, xl_some ?_, rfl⟩
      · simp only [ftA_askAt]
        rw [xo_f (fun z => z (xi_n0.mp h8)), xo_f (fun z => z (by rw [hz]; decide))]
      · subst hz
        simp [xi_x]
        try rfl
    case g12_c_68 =>
      exact ⟨_, rfl, xl_has (by decide) hpre.A (xi_n0.mp h8), (hpre.a (xi_n0.mp h8)).1⟩
    case g13_w_71 =>
      first | rfl | exact xi_nb
    case g14_r_71 =>
      have hz := xl_tb h22
      refine ⟨?_, xl_some ?_, rfl⟩
      · simp only [ftA_askAt]
        rw [xo_f (fun z => z (xi_n0.mp h8)), xo_f (fun z => z (by rw [hz]; decide))]
      · subst hz
        simp [xi_x]
        try rfl
    case g15_i_64 =>
      exact xl_has (by decide) hpre.A (xi_n0.mp h8)
    case g16_w_65 =>
      first | rfl | exact xi_nb
    case g17_r_65 =>
      have hz := xl_tb h22
      refine ⟨?_, xl_some ?_, rfl⟩
      · simp only [ftA_askAt]
        rw [xo_f (fun z => z (xi_n0.mp h8)), xo_f (fun z => z (by rw [hz]; decide))]
      · subst hz
        simp [xi_x]
        try rfl
    case g18_t_11 =>
      refine ⟨rfl, _, rfl, ?_⟩
      simp only [ftA_askAt]
      try simp only [xi_0, xi_n0] at *
      grind [xo_t, xo_f, Int32.not_lt, Int32.not_le]
def pA_left (as : List Value) (M : xm_M) : Prop := ∃ p y x : Int32, as = [.ref 0, .int p, .int y, .int x] ∧ xv_I M
noncomputable def fA_left (as : List Value) (M : xm_M) : Option Value × xm_M := match as with
  | [_, .int p, .int y, .int x] => (some (.int (xi_x (x = 0) (xi_x (y = 0) (xd_py M (M 11 p.toNatClampNeg) (M 12 p.toNatClampNeg) p 0 0) (xd_py M (M 11 p.toNatClampNeg) (M 12 p.toNatClampNeg) p 1 0 + xd_pc (M 0 6) (M 12 p.toNatClampNeg) (xd_py M (M 11 p.toNatClampNeg) (M 12 p.toNatClampNeg) p 0 0))) (730 * M 12 p.toNatClampNeg) / ((fun z : Int32 => if (1 : Int32) < z then z else 1) (xq_g 1000 (if 0 ≤ (xi_x (y = 0) (xd_py M (M 11 p.toNatClampNeg) (M 12 p.toNatClampNeg) p 0 0) (xd_py M (M 11 p.toNatClampNeg) (M 12 p.toNatClampNeg) p 1 0 + xd_pc (M 0 6) (M 12 p.toNatClampNeg) (xd_py M (M 11 p.toNatClampNeg) (M 12 p.toNatClampNeg) p 0 0))) then (xi_x (y = 0) (xd_py M (M 11 p.toNatClampNeg) (M 12 p.toNatClampNeg) p 0 0) (xd_py M (M 11 p.toNatClampNeg) (M 12 p.toNatClampNeg) p 1 0 + xd_pc (M 0 6) (M 12 p.toNatClampNeg) (xd_py M (M 11 p.toNatClampNeg) (M 12 p.toNatClampNeg) p 0 0))) else -(xi_x (y = 0) (xd_py M (M 11 p.toNatClampNeg) (M 12 p.toNatClampNeg) p 0 0) (xd_py M (M 11 p.toNatClampNeg) (M 12 p.toNatClampNeg) p 1 0 + xd_pc (M 0 6) (M 12 p.toNatClampNeg) (xd_py M (M 11 p.toNatClampNeg) (M 12 p.toNatClampNeg) p 0 0)))) (730 * M 12 p.toNatClampNeg))))), M)
  | _ => (none, M)
noncomputable def ftA_left (as : List Value) (M : xm_M) : Option String := match as with
  | [_, .int p, .int y, .int x] => xo_ (¬ ((0 ≤ p ∧ p ≤ M 2 0 - 1) ∧ (0 ≤ y ∧ y ≤ 1) ∧ (0 ≤ x ∧ x ≤ 1))) (some "java/lang/IllegalArgumentException") (none)
  | _ => none
noncomputable def tA_left : List (Nat × xm_C) := [(88, sP_has), (61, sA_isWithin), (244, sA_partsLeft), (247, sA_partsOfDay), (250, sA_greatestDivisor)]
theorem lA_left (l : Launch) : ∀ n C, (n, C) ∈ tA_left → xm_lkS l "AbsenceRows" xt_T xk_ns xr_p xk_cl xk_tA n C ∨ xm_lkV l "AbsenceRows" xt_T xk_ns xr_p xk_cl xk_tA n C := fun n C h => (show ∀ q ∈ tA_left, xm_lkS l "AbsenceRows" xt_T xk_ns xr_p xk_cl xk_tA q.1 q.2 ∨ xm_lkV l "AbsenceRows" xt_T xk_ns xr_p xk_cl xk_tA q.1 q.2 from List.forall_mem_cons.mpr ⟨Or.inr ⟨xy_P_has, xb_P_has, 2, (some .boolean), xr_ 1, 1, 2, 2, [none, some 8, some 9, some 10, some 11, some 12, some 13, some 14], xk_T2, 8, rfl, rfl, ⟨xe_P_has, xw_39, ⟨by decide, by decide, by decide +kernel⟩, ⟨Nat.le_of_ble_eq_true rfl, Nat.le_of_ble_eq_true rfl⟩, rfl, rfl⟩, xw_372, xw_373, xw_374, rfl, rfl, vP_has, Or.inl ⟨rfl, uP_has, cP_has l⟩⟩, List.forall_mem_cons.mpr ⟨Or.inl ⟨xy_A_isWithin, xb_A_isWithin, 3, (some .boolean), xr_ 0, rfl, ⟨xe_A_isWithin, xw_37, ⟨by decide, by decide, by decide +kernel⟩, ⟨Nat.le_of_ble_eq_true rfl, Nat.le_of_ble_eq_true rfl⟩, rfl, rfl⟩, xw_269, Or.inl xw_268, Or.inl ⟨rfl, uA_isWithin, cA_isWithin l⟩⟩, List.forall_mem_cons.mpr ⟨Or.inr ⟨xy_A_partsLeft, xb_A_partsLeft, 6, (some .int), xr_ 5, 2, 0, 0, [some 1, some 2, some 3, some 4, some 5, some 6, none, none, none], xk_T0, 9, rfl, rfl, ⟨xe_A_partsLeft, xw_37, ⟨by decide, by decide, by decide +kernel⟩, ⟨Nat.le_of_ble_eq_true rfl, Nat.le_of_ble_eq_true rfl⟩, rfl, rfl⟩, xw_658, xw_660, xw_11, rfl, rfl, vA_partsLeft, Or.inl ⟨rfl, uA_partsLeft, cA_partsLeft l⟩⟩, List.forall_mem_cons.mpr ⟨Or.inl ⟨xy_A_partsOfDay, xb_A_partsOfDay, 1, (some .int), xr_ 0, rfl, ⟨xe_A_partsOfDay, xw_37, ⟨by decide, by decide, by decide +kernel⟩, ⟨Nat.le_of_ble_eq_true rfl, Nat.le_of_ble_eq_true rfl⟩, rfl, rfl⟩, xw_446, Or.inl xw_445, Or.inl ⟨rfl, uA_partsOfDay, cA_partsOfDay l⟩⟩, List.forall_mem_cons.mpr ⟨Or.inl ⟨xy_A_greatestDivisor, xb_A_greatestDivisor, 6, (some .int), xr_ 1, rfl, ⟨xe_A_greatestDivisor, xw_37, ⟨by decide, by decide, by decide +kernel⟩, ⟨Nat.le_of_ble_eq_true rfl, Nat.le_of_ble_eq_true rfl⟩, rfl, rfl⟩, xw_663, Or.inl xw_662, Or.inl ⟨rfl, uA_greatestDivisor, cA_greatestDivisor l⟩⟩, fun _ h => absurd h List.not_mem_nil⟩⟩⟩⟩⟩) (n, C) h
def ttA_left : List (Nat × xm_Q) := [(29, (91, 242, 95, false, "java/lang/IllegalArgumentException", "no such person, year or what"))]
theorem toA_left : ∀ q ∈ ttA_left, xm_thr "AbsenceRows" xt_T xk_ns xh_ss xb_A_left q.1 q.2 := List.forall_mem_cons.mpr ⟨⟨⟨by decide +kernel, by decide +kernel, by decide +kernel, by decide +kernel, by decide +kernel⟩, by decide, xh_cl_IllegalArgumentException, xh_in_IllegalArgumentException, xh_at_IllegalArgumentException, xh_ot_IllegalArgumentException, List.mem_of_getElem? (i := 24) rfl⟩, fun _ h => absurd h List.not_mem_nil⟩
set_option maxRecDepth 20000 in
set_option maxHeartbeats 4000000 in
theorem cA_left (l : Launch) (hl : l.stackTraces = false) : xm_Th l xy_A_left (Cond.code xy_A_left xb_A_left 7 (some .int) :: xt_T) xr_p "AbsenceRows" xh_ss xk_cl xk_ns xk_tA pA_left fA_left ftA_left := by
  refine xm_mk_th (rt := .int) (fl := xf_A) (ct := tA_left) (cn := []) (cj := []) (tt := ttA_left) hl (by decide) xs_A xd_A_left rfl (Or.inr rfl) (lA_left l) toA_left ⟨Nat.le_of_ble_eq_true rfl, Nat.le_of_ble_eq_true rfl, rfl, rfl⟩ (fun _ _ _ _ _ _ _ _ => False) ?_ ?_ ?_ (fun _ _ _ _ _ _ _ _ _ h => h.elim) ?_
  · rintro as M ⟨p, y, x, rfl, hpre⟩; exact Nat.le_of_ble_eq_true rfl
  · rintro as M ⟨p, y, x, rfl, hpre⟩; simp [fA_left]
  · rintro as M v ⟨p, y, x, rfl, hpre⟩ h; simp [fA_left] at h
  · rintro as M ⟨p, y, x, rfl, hpre⟩
    refine ⟨600, (And.intro rfl (And.intro rfl (And.intro (Nat.le_of_ble_eq_true rfl) (And.intro (Nat.le_of_ble_eq_true rfl) (And.intro ?g1_c_5 (And.intro (by decide) (And.intro (fun h8 => ?g2_t_29) (fun h8 => (And.intro rfl (And.intro (Nat.le_of_ble_eq_true rfl) (And.intro (Nat.le_of_ble_eq_true rfl) (And.intro ?g3_c_14 (And.intro (by decide) (And.intro (fun h17 => ?g4_t_29) (fun h17 => (And.intro rfl (And.intro (Nat.le_of_ble_eq_true rfl) (And.intro (Nat.le_of_ble_eq_true rfl) (And.intro ?g5_c_23 (And.intro (by decide) (And.intro (fun h26 => (And.intro rfl (And.intro (Nat.le_of_ble_eq_true rfl) (And.intro (Nat.le_of_ble_eq_true rfl) (And.intro ?g6_c_42 (And.intro (Nat.le_of_ble_eq_true rfl) (And.intro rfl (And.intro rfl (And.intro rfl (And.intro ?g7_i_55 (And.intro rfl (And.intro (Nat.le_of_ble_eq_true rfl) (And.intro (Nat.le_of_ble_eq_true rfl) (And.intro ?g8_c_56 (And.intro (Nat.le_of_ble_eq_true rfl) (And.intro rfl (And.intro (Nat.le_of_ble_eq_true rfl) (And.intro (Nat.le_of_ble_eq_true rfl) (And.intro ?g9_c_65 (And.intro (Nat.le_of_ble_eq_true rfl) (And.intro (by decide) (And.intro (fun h71 => (And.intro ?g10_n_83 (And.intro ?g11_w_84 ?g12_r_84))) (fun h71 => (And.intro (by decide) (And.intro ?g13_n_83 (And.intro ?g14_w_84 ?g15_r_84)))))))))))))))))))))))))) (fun h26 => ?g16_t_29))))))))))))))))))))))⟩
    case g1_c_5 =>
      exact ⟨_, rfl⟩
    case g2_t_29 =>
      refine ⟨rfl, _, rfl, ?_⟩
      simp only [ftA_left]
      try simp only [xi_0, xi_n0] at *
      grind [xo_t, xo_f, Int32.not_lt, Int32.not_le]
    case g3_c_14 =>
      exact ⟨_, _, _, rfl⟩
    case g4_t_29 =>
      refine ⟨rfl, _, rfl, ?_⟩
      simp only [ftA_left]
      try simp only [xi_0, xi_n0] at *
      grind [xo_t, xo_f, Int32.not_lt, Int32.not_le]
    case g5_c_23 =>
      exact ⟨_, _, _, rfl⟩
    case g6_c_42 =>
      exact ⟨_, _, rfl, xl_has (by decide) hpre.P (xi_n0.mp h8), hpre.K⟩
    case g7_i_55 =>
      exact xl_has (by decide) hpre.P (xi_n0.mp h8)
    case g8_c_56 =>
      exact ⟨_, rfl⟩
    case g9_c_65 =>
      exact ⟨_, _, rfl⟩
    case g10_n_83 =>
      exact xl_m1 _
    case g11_w_84 =>
      first | rfl | exact xi_nb
    case g12_r_84 =>
      refine ⟨?_, xl_some ?_, rfl⟩
      · simp only [ftA_left]
        rw [xo_f (fun z => z ⟨xi_n0.mp h8, xi_n0.mp h17, xi_n0.mp h26⟩)]
      · first | rw [xi_xt h71] | rw [xi_xf h71]
        all_goals rfl
    case g13_n_83 =>
      exact xl_m1 _
    case g14_w_84 =>
      first | rfl | exact xi_nb
    case g15_r_84 =>
      refine ⟨?_, xl_some ?_, rfl⟩
      · simp only [ftA_left]
        rw [xo_f (fun z => z ⟨xi_n0.mp h8, xi_n0.mp h17, xi_n0.mp h26⟩)]
      · first | rw [xi_xt h71] | rw [xi_xf h71]
        all_goals rfl
    case g16_t_29 =>
      refine ⟨rfl, _, rfl, ?_⟩
      simp only [ftA_left]
      try simp only [xi_0, xi_n0] at *
      grind [xo_t, xo_f, Int32.not_lt, Int32.not_le]
def pA_absent (as : List Value) (M : xm_M) : Prop := ∃ p d : Int32, as = [.ref 0, .int p, .int d] ∧ xv_I M
noncomputable def fA_absent (as : List Value) (M : xm_M) : Option Value × xm_M := match as with
  | [_, .int p, .int d] => (some (.int (xi_b (¬ xd_abs M d &&& ((1 : Int32) <<< (p &&& 31)) = 0))), M)
  | _ => (none, M)
noncomputable def ftA_absent (as : List Value) (M : xm_M) : Option String := match as with
  | [_, .int p, .int d] => xo_ (¬ (0 ≤ p ∧ p ≤ M 2 0 - 1)) (some "java/lang/IllegalArgumentException") (xo_ (¬ (0 ≤ d ∧ d ≤ 729)) (some "java/lang/IndexOutOfBoundsException") (none))
  | _ => none
noncomputable def tA_absent : List (Nat × xm_C) := [(88, sP_has), (65, sA_isDay), (253, sK_absentOn), (149, sA_holds)]
theorem lA_absent (l : Launch) : ∀ n C, (n, C) ∈ tA_absent → xm_lkS l "AbsenceRows" xt_T xk_ns xr_p xk_cl xk_tA n C ∨ xm_lkV l "AbsenceRows" xt_T xk_ns xr_p xk_cl xk_tA n C := fun n C h => (show ∀ q ∈ tA_absent, xm_lkS l "AbsenceRows" xt_T xk_ns xr_p xk_cl xk_tA q.1 q.2 ∨ xm_lkV l "AbsenceRows" xt_T xk_ns xr_p xk_cl xk_tA q.1 q.2 from List.forall_mem_cons.mpr ⟨Or.inr ⟨xy_P_has, xb_P_has, 2, (some .boolean), xr_ 1, 1, 2, 2, [none, some 8, some 9, some 10, some 11, some 12, some 13, some 14], xk_T2, 8, rfl, rfl, ⟨xe_P_has, xw_39, ⟨by decide, by decide, by decide +kernel⟩, ⟨Nat.le_of_ble_eq_true rfl, Nat.le_of_ble_eq_true rfl⟩, rfl, rfl⟩, xw_372, xw_373, xw_374, rfl, rfl, vP_has, Or.inl ⟨rfl, uP_has, cP_has l⟩⟩, List.forall_mem_cons.mpr ⟨Or.inl ⟨xy_A_isDay, xb_A_isDay, 1, (some .boolean), xr_ 1, rfl, ⟨xe_A_isDay, xw_37, ⟨by decide, by decide, by decide +kernel⟩, ⟨Nat.le_of_ble_eq_true rfl, Nat.le_of_ble_eq_true rfl⟩, rfl, rfl⟩, xw_272, Or.inl xw_271, Or.inl ⟨rfl, uA_isDay, cA_isDay l⟩⟩, List.forall_mem_cons.mpr ⟨Or.inr ⟨xy_K_absentOn, xb_K_absentOn, 4, (some .int), xr_ 1, 1, 4, 4, [none, some 18, some 19, some 20, some 21, some 22, some 23, some 24], xk_T4, 8, rfl, rfl, ⟨xe_K_absentOn, xw_41, ⟨by decide, by decide, by decide +kernel⟩, ⟨Nat.le_of_ble_eq_true rfl, Nat.le_of_ble_eq_true rfl⟩, rfl, rfl⟩, xw_614, xw_615, xw_616, rfl, rfl, vK_absentOn, Or.inl ⟨rfl, uK_absentOn, cK_absentOn l⟩⟩, List.forall_mem_cons.mpr ⟨Or.inl ⟨xy_A_holds, xb_A_holds, 2, (some .boolean), xr_ 1, rfl, ⟨xe_A_holds, xw_37, ⟨by decide, by decide, by decide +kernel⟩, ⟨Nat.le_of_ble_eq_true rfl, Nat.le_of_ble_eq_true rfl⟩, rfl, rfl⟩, xw_526, Or.inl xw_525, Or.inl ⟨rfl, uA_holds, cA_holds l⟩⟩, fun _ h => absurd h List.not_mem_nil⟩⟩⟩⟩) (n, C) h
def ttA_absent : List (Nat × xm_Q) := [(11, (91, 93, 95, false, "java/lang/IllegalArgumentException", "no such person")), (28, (69, 118, 73, false, "java/lang/IndexOutOfBoundsException", "no such day"))]
theorem toA_absent : ∀ q ∈ ttA_absent, xm_thr "AbsenceRows" xt_T xk_ns xh_ss xb_A_absent q.1 q.2 := List.forall_mem_cons.mpr ⟨⟨⟨by decide +kernel, by decide +kernel, by decide +kernel, by decide +kernel, by decide +kernel⟩, by decide, xh_cl_IllegalArgumentException, xh_in_IllegalArgumentException, xh_at_IllegalArgumentException, xh_ot_IllegalArgumentException, List.mem_of_getElem? (i := 2) rfl⟩, List.forall_mem_cons.mpr ⟨⟨⟨by decide +kernel, by decide +kernel, by decide +kernel, by decide +kernel, by decide +kernel⟩, by decide, xh_cl_IndexOutOfBoundsException, xh_in_IndexOutOfBoundsException, xh_at_IndexOutOfBoundsException, xh_ot_IndexOutOfBoundsException, List.mem_of_getElem? (i := 7) rfl⟩, fun _ h => absurd h List.not_mem_nil⟩⟩
set_option maxRecDepth 20000 in
set_option maxHeartbeats 4000000 in
theorem cA_absent (l : Launch) (hl : l.stackTraces = false) : xm_Th l xy_A_absent (Cond.code xy_A_absent xb_A_absent 3 (some .boolean) :: xt_T) xr_p "AbsenceRows" xh_ss xk_cl xk_ns xk_tA pA_absent fA_absent ftA_absent := by
  refine xm_mk_th (rt := .boolean) (fl := xf_A) (ct := tA_absent) (cn := []) (cj := []) (tt := ttA_absent) hl (by decide) xs_A xd_A_absent rfl (Or.inr rfl) (lA_absent l) toA_absent ⟨Nat.le_of_ble_eq_true rfl, Nat.le_of_ble_eq_true rfl, rfl, rfl⟩ (fun _ _ _ _ _ _ _ _ => False) ?_ ?_ ?_ (fun _ _ _ _ _ _ _ _ _ h => h.elim) ?_
  · rintro as M ⟨p, d, rfl, hpre⟩; exact Nat.le_of_ble_eq_true rfl
  · rintro as M ⟨p, d, rfl, hpre⟩; simp [fA_absent]
  · rintro as M v ⟨p, d, rfl, hpre⟩ h; simp [fA_absent] at h
  · rintro as M ⟨p, d, rfl, hpre⟩
    refine ⟨600, (And.intro rfl (And.intro rfl (And.intro (Nat.le_of_ble_eq_true rfl) (And.intro (Nat.le_of_ble_eq_true rfl) (And.intro ?g1_c_5 (And.intro (by decide) (And.intro (fun h8 => (And.intro rfl (And.intro (Nat.le_of_ble_eq_true rfl) (And.intro (Nat.le_of_ble_eq_true rfl) (And.intro ?g2_c_22 (And.intro (by decide) (And.intro (fun h25 => (And.intro rfl (And.intro rfl (And.intro (Nat.le_of_ble_eq_true rfl) (And.intro (Nat.le_of_ble_eq_true rfl) (And.intro ?g3_c_43 (And.intro rfl (And.intro (Nat.le_of_ble_eq_true rfl) (And.intro (Nat.le_of_ble_eq_true rfl) (And.intro ?g4_c_47 (And.intro ?g5_w_50 ?g6_r_50))))))))))) (fun h25 => ?g7_t_28)))))))) (fun h8 => ?g8_t_11))))))))⟩
    case g1_c_5 =>
      exact ⟨_, rfl⟩
    case g2_c_22 =>
      exact ⟨_, rfl⟩
    case g3_c_43 =>
      exact ⟨_, rfl, hpre.A⟩
    case g4_c_47 =>
      exact ⟨_, _, rfl⟩
    case g5_w_50 =>
      first | rfl | exact xi_nb
    case g6_r_50 =>
      refine ⟨?_, rfl, rfl⟩
      simp only [ftA_absent]
      try simp only [xi_0, xi_n0] at *
      grind [xo_t, xo_f, Int32.not_lt, Int32.not_le]
    case g7_t_28 =>
      refine ⟨rfl, _, rfl, ?_⟩
      simp only [ftA_absent]
      try simp only [xi_0, xi_n0] at *
      grind [xo_t, xo_f, Int32.not_lt, Int32.not_le]
    case g8_t_11 =>
      refine ⟨rfl, _, rfl, ?_⟩
      simp only [ftA_absent]
      try simp only [xi_0, xi_n0] at *
      grind [xo_t, xo_f, Int32.not_lt, Int32.not_le]
def pA_present (as : List Value) (M : xm_M) : Prop := ∃ w d : Int32, as = [.ref 0, .int w, .int d] ∧ xv_I M
noncomputable def fA_present (as : List Value) (M : xm_M) : Option Value × xm_M := match as with
  | [_, .int w, .int d] => (some (.int (xd_bc (M 17 w.toNatClampNeg &&& xd_aw M d ||| xd_come M w d))), M)
  | _ => (none, M)
noncomputable def ftA_present (as : List Value) (M : xm_M) : Option String := match as with
  | [_, .int w, .int d] => xo_ (¬ (0 ≤ w ∧ w ≤ M 3 0 - 1)) (some "java/lang/IllegalArgumentException") (xo_ (¬ (0 ≤ d ∧ d ≤ 729)) (some "java/lang/IndexOutOfBoundsException") (none))
  | _ => none
noncomputable def tA_present : List (Nat × xm_C) := [(143, sW_has), (65, sA_isDay), (258, sA_atWorkOn), (261, sL_comeTo), (158, sI_bitCount)]
theorem lA_present (l : Launch) : ∀ n C, (n, C) ∈ tA_present → xm_lkS l "AbsenceRows" xt_T xk_ns xr_p xk_cl xk_tA n C ∨ xm_lkV l "AbsenceRows" xt_T xk_ns xr_p xk_cl xk_tA n C := fun n C h => (show ∀ q ∈ tA_present, xm_lkS l "AbsenceRows" xt_T xk_ns xr_p xk_cl xk_tA q.1 q.2 ∨ xm_lkV l "AbsenceRows" xt_T xk_ns xr_p xk_cl xk_tA q.1 q.2 from List.forall_mem_cons.mpr ⟨Or.inr ⟨xy_W_has, xb_W_has, 2, (some .boolean), xr_ 1, 1, 3, 3, [none, some 15, some 16, some 17], xk_T3, 4, rfl, rfl, ⟨xe_W_has, xw_40, ⟨by decide, by decide, by decide +kernel⟩, ⟨Nat.le_of_ble_eq_true rfl, Nat.le_of_ble_eq_true rfl⟩, rfl, rfl⟩, xw_519, xw_520, xw_521, rfl, rfl, vW_has, Or.inl ⟨rfl, uW_has, cW_has l⟩⟩, List.forall_mem_cons.mpr ⟨Or.inl ⟨xy_A_isDay, xb_A_isDay, 1, (some .boolean), xr_ 1, rfl, ⟨xe_A_isDay, xw_37, ⟨by decide, by decide, by decide +kernel⟩, ⟨Nat.le_of_ble_eq_true rfl, Nat.le_of_ble_eq_true rfl⟩, rfl, rfl⟩, xw_272, Or.inl xw_271, Or.inl ⟨rfl, uA_isDay, cA_isDay l⟩⟩, List.forall_mem_cons.mpr ⟨Or.inr ⟨xy_A_atWorkOn, xb_A_atWorkOn, 2, (some .int), xr_ 2, 1, 0, 0, [some 1, some 2, some 3, some 4, some 5, some 6, none, none, none], xk_T0, 9, rfl, rfl, ⟨xe_A_atWorkOn, xw_37, ⟨by decide, by decide, by decide +kernel⟩, ⟨Nat.le_of_ble_eq_true rfl, Nat.le_of_ble_eq_true rfl⟩, rfl, rfl⟩, xw_605, xw_607, xw_10, rfl, rfl, vA_atWorkOn, Or.inl ⟨rfl, uA_atWorkOn, cA_atWorkOn l⟩⟩, List.forall_mem_cons.mpr ⟨Or.inr ⟨xy_L_comeTo, xb_L_comeTo, 5, (some .int), xr_ 1, 2, 6, 6, [none, some 28, some 29, some 30, some 31, some 32, some 33], xk_T6, 7, rfl, rfl, ⟨xe_L_comeTo, xw_43, ⟨by decide, by decide, by decide +kernel⟩, ⟨Nat.le_of_ble_eq_true rfl, Nat.le_of_ble_eq_true rfl⟩, rfl, rfl⟩, xw_620, xw_621, xw_622, rfl, rfl, vL_comeTo, Or.inl ⟨rfl, uL_comeTo, cL_comeTo l⟩⟩, List.forall_mem_cons.mpr ⟨Or.inl ⟨xy_I_bitCount, xb_I_bitCount, 1, (some .int), xr_ 0, rfl, ⟨xe_I_bitCount, xw_53, ⟨by decide, by decide, by decide +kernel⟩, ⟨Nat.le_of_ble_eq_true rfl, Nat.le_of_ble_eq_true rfl⟩, rfl, rfl⟩, xw_533, Or.inl xw_532, Or.inl ⟨rfl, uI_bitCount, cI_bitCount l⟩⟩, fun _ h => absurd h List.not_mem_nil⟩⟩⟩⟩⟩) (n, C) h
def ttA_present : List (Nat × xm_Q) := [(11, (91, 256, 95, true, "java/lang/IllegalArgumentException", "no such crew")), (29, (69, 118, 73, false, "java/lang/IndexOutOfBoundsException", "no such day"))]
theorem toA_present : ∀ q ∈ ttA_present, xm_thr "AbsenceRows" xt_T xk_ns xh_ss xb_A_present q.1 q.2 := List.forall_mem_cons.mpr ⟨⟨⟨by decide +kernel, by decide +kernel, by decide +kernel, by decide +kernel, by decide +kernel⟩, by decide, xh_cl_IllegalArgumentException, xh_in_IllegalArgumentException, xh_at_IllegalArgumentException, xh_ot_IllegalArgumentException, List.mem_of_getElem? (i := 25) rfl⟩, List.forall_mem_cons.mpr ⟨⟨⟨by decide +kernel, by decide +kernel, by decide +kernel, by decide +kernel, by decide +kernel⟩, by decide, xh_cl_IndexOutOfBoundsException, xh_in_IndexOutOfBoundsException, xh_at_IndexOutOfBoundsException, xh_ot_IndexOutOfBoundsException, List.mem_of_getElem? (i := 7) rfl⟩, fun _ h => absurd h List.not_mem_nil⟩⟩
set_option maxRecDepth 20000 in
set_option maxHeartbeats 4000000 in
theorem cA_present (l : Launch) (hl : l.stackTraces = false) : xm_Th l xy_A_present (Cond.code xy_A_present xb_A_present 3 (some .int) :: xt_T) xr_p "AbsenceRows" xh_ss xk_cl xk_ns xk_tA pA_present fA_present ftA_present := by
  refine xm_mk_th (rt := .int) (fl := xf_A) (ct := tA_present) (cn := []) (cj := []) (tt := ttA_present) hl (by decide) xs_A xd_A_present rfl (Or.inr rfl) (lA_present l) toA_present ⟨Nat.le_of_ble_eq_true rfl, Nat.le_of_ble_eq_true rfl, rfl, rfl⟩ (fun _ _ _ _ _ _ _ _ => False) ?_ ?_ ?_ (fun _ _ _ _ _ _ _ _ _ h => h.elim) ?_
  · rintro as M ⟨w, d, rfl, hpre⟩; exact Nat.le_of_ble_eq_true rfl
  · rintro as M ⟨w, d, rfl, hpre⟩; simp [fA_present]
  · rintro as M v ⟨w, d, rfl, hpre⟩ h; simp [fA_present] at h
  · rintro as M ⟨w, d, rfl, hpre⟩
    refine ⟨600, (And.intro rfl (And.intro rfl (And.intro (Nat.le_of_ble_eq_true rfl) (And.intro (Nat.le_of_ble_eq_true rfl) (And.intro ?g1_c_5 (And.intro (by decide) (And.intro (fun h8 => (And.intro rfl (And.intro (Nat.le_of_ble_eq_true rfl) (And.intro (Nat.le_of_ble_eq_true rfl) (And.intro ?g2_c_23 (And.intro (by decide) (And.intro (fun h26 => (And.intro rfl (And.intro rfl (And.intro rfl (And.intro ?g3_i_47 (And.intro rfl (And.intro (Nat.le_of_ble_eq_true rfl) (And.intro (Nat.le_of_ble_eq_true rfl) (And.intro ?g4_c_50 (And.intro rfl (And.intro rfl (And.intro (Nat.le_of_ble_eq_true rfl) (And.intro (Nat.le_of_ble_eq_true rfl) (And.intro ?g5_c_60 (And.intro rfl (And.intro (Nat.le_of_ble_eq_true rfl) (And.intro (Nat.le_of_ble_eq_true rfl) (And.intro ?g6_c_64 (And.intro ?g7_w_67 ?g8_r_67))))))))))))))))))) (fun h26 => ?g9_t_29)))))))) (fun h8 => ?g10_t_11))))))))⟩
    case g1_c_5 =>
      exact ⟨_, rfl⟩
    case g2_c_23 =>
      exact ⟨_, rfl⟩
    case g3_i_47 =>
      exact xl_has (by decide) hpre.W (xi_n0.mp h8)
    case g4_c_50 =>
      exact ⟨_, rfl, hpre.1⟩
    case g5_c_60 =>
      exact ⟨_, _, rfl, hpre.L⟩
    case g6_c_64 =>
      exact ⟨_, rfl⟩
    case g7_w_67 =>
      first | rfl | exact xi_nb
    case g8_r_67 =>
      refine ⟨?_, rfl, rfl⟩
      simp only [ftA_present]
      try simp only [xi_0, xi_n0] at *
      grind [xo_t, xo_f, Int32.not_lt, Int32.not_le]
    case g9_t_29 =>
      refine ⟨rfl, _, rfl, ?_⟩
      simp only [ftA_present]
      try simp only [xi_0, xi_n0] at *
      grind [xo_t, xo_f, Int32.not_lt, Int32.not_le]
    case g10_t_11 =>
      refine ⟨rfl, _, rfl, ?_⟩
      simp only [ftA_present]
      try simp only [xi_0, xi_n0] at *
      grind [xo_t, xo_f, Int32.not_lt, Int32.not_le]
def pA_held (as : List Value) (M : xm_M) : Prop := ∃ i x : Int32, as = [.ref 0, .int i, .int x] ∧ xv_I M
noncomputable def fA_held (as : List Value) (M : xm_M) : Option Value × xm_M := match as with
  | [_, .int i, .int x] => (some (.int (xi_x (x = 0) (M 25 i.toNatClampNeg) (xi_x (x = 1) (M 26 i.toNatClampNeg) (xi_x (x = 2) (M 27 i.toNatClampNeg) (0))))), M)
  | _ => (none, M)
noncomputable def ftA_held (as : List Value) (M : xm_M) : Option String := match as with
  | [_, .int i, .int x] => xo_ (¬ (0 ≤ i ∧ i ≤ M 5 0 - 1)) (some "java/lang/IllegalArgumentException") (xo_ (¬ (x = 0 ∨ x = 1 ∨ x = 2)) (some "java/lang/IllegalArgumentException") (none))
  | _ => none
noncomputable def tA_held : List (Nat × xm_C) := [(264, sH_has)]
theorem lA_held (l : Launch) : ∀ n C, (n, C) ∈ tA_held → xm_lkS l "AbsenceRows" xt_T xk_ns xr_p xk_cl xk_tA n C ∨ xm_lkV l "AbsenceRows" xt_T xk_ns xr_p xk_cl xk_tA n C := fun n C h => (show ∀ q ∈ tA_held, xm_lkS l "AbsenceRows" xt_T xk_ns xr_p xk_cl xk_tA q.1 q.2 ∨ xm_lkV l "AbsenceRows" xt_T xk_ns xr_p xk_cl xk_tA q.1 q.2 from List.forall_mem_cons.mpr ⟨Or.inr ⟨xy_H_has, xb_H_has, 2, (some .boolean), xr_ 1, 1, 5, 5, [none, some 25, some 26, some 27], xk_T5, 4, rfl, rfl, ⟨xe_H_has, xw_42, ⟨by decide, by decide, by decide +kernel⟩, ⟨Nat.le_of_ble_eq_true rfl, Nat.le_of_ble_eq_true rfl⟩, rfl, rfl⟩, xw_690, xw_691, xw_692, rfl, rfl, vH_has, Or.inl ⟨rfl, uH_has, cH_has l⟩⟩, fun _ h => absurd h List.not_mem_nil⟩) (n, C) h
def ttA_held : List (Nat × xm_Q) := [(11, (91, 265, 95, true, "java/lang/IllegalArgumentException", "no such row")), (78, (91, 240, 95, false, "java/lang/IllegalArgumentException", "no such what"))]
theorem toA_held : ∀ q ∈ ttA_held, xm_thr "AbsenceRows" xt_T xk_ns xh_ss xb_A_held q.1 q.2 := List.forall_mem_cons.mpr ⟨⟨⟨by decide +kernel, by decide +kernel, by decide +kernel, by decide +kernel, by decide +kernel⟩, by decide, xh_cl_IllegalArgumentException, xh_in_IllegalArgumentException, xh_at_IllegalArgumentException, xh_ot_IllegalArgumentException, List.mem_of_getElem? (i := 26) rfl⟩, List.forall_mem_cons.mpr ⟨⟨⟨by decide +kernel, by decide +kernel, by decide +kernel, by decide +kernel, by decide +kernel⟩, by decide, xh_cl_IllegalArgumentException, xh_in_IllegalArgumentException, xh_at_IllegalArgumentException, xh_ot_IllegalArgumentException, List.mem_of_getElem? (i := 23) rfl⟩, fun _ h => absurd h List.not_mem_nil⟩⟩
set_option maxRecDepth 20000 in
set_option maxHeartbeats 4000000 in
theorem cA_held (l : Launch) (hl : l.stackTraces = false) : xm_Th l xy_A_held (Cond.code xy_A_held xb_A_held 3 (some .int) :: xt_T) xr_p "AbsenceRows" xh_ss xk_cl xk_ns xk_tA pA_held fA_held ftA_held := by
  refine xm_mk_th (rt := .int) (fl := xf_A) (ct := tA_held) (cn := []) (cj := []) (tt := ttA_held) hl (by decide) xs_A xd_A_held rfl (Or.inr rfl) (lA_held l) toA_held ⟨Nat.le_of_ble_eq_true rfl, Nat.le_of_ble_eq_true rfl, rfl, rfl⟩ (fun _ _ _ _ _ _ _ _ => False) ?_ ?_ ?_ (fun _ _ _ _ _ _ _ _ _ h => h.elim) ?_
  · rintro as M ⟨i, x, rfl, hpre⟩; exact Nat.le_of_ble_eq_true rfl
  · rintro as M ⟨i, x, rfl, hpre⟩; simp [fA_held]
  · rintro as M v ⟨i, x, rfl, hpre⟩ h; simp [fA_held] at h
  · rintro as M ⟨i, x, rfl, hpre⟩
    refine ⟨600, (And.intro rfl (And.intro rfl (And.intro (Nat.le_of_ble_eq_true rfl) (And.intro (Nat.le_of_ble_eq_true rfl) (And.intro ?g1_c_5 (And.intro (by decide) (And.intro (fun h8 => (And.intro (fun h23 => (And.intro (by decide) ?g2_t_78)) (And.intro (by decide) (And.intro (fun h23 => (And.intro (by decide) (And.intro rfl (And.intro rfl (And.intro rfl (And.intro ?g9_i_56 (And.intro ?g10_w_57 ?g11_r_57))))))) (And.intro (fun h23 => (And.intro (by decide) (And.intro rfl (And.intro rfl (And.intro rfl (And.intro ?g6_i_66 (And.intro ?g7_w_67 ?g8_r_67))))))) (And.intro (fun h23 => (And.intro (by decide) (And.intro rfl (And.intro rfl (And.intro rfl (And.intro ?g3_i_76 (And.intro ?g4_w_77 ?g5_r_77))))))) True.intro)))))) (fun h8 => ?g12_t_11))))))))⟩
    case g1_c_5 =>
      exact ⟨_, rfl⟩
    case g2_t_78 =>
      refine ⟨rfl, _, rfl, ?_⟩
      simp only [ftA_held]
      rw [xo_f (fun z => z (xi_n0.mp h8)), xo_t (fun z => ?_)]
      have hz : ¬ x = 0 ∧ ¬ x = 1 ∧ ¬ x = 2 := ⟨xl_td h23 _, xl_td h23 _, xl_td h23 _⟩
      grind
    case g3_i_76 =>
      exact xl_has (by decide) hpre.H (xi_n0.mp h8)
    case g4_w_77 =>
      first | rfl | exact xi_nb
    case g5_r_77 =>
      have hz := xl_tb h23
      refine ⟨?_, xl_some ?_, rfl⟩
      · simp only [ftA_held]
        rw [xo_f (fun z => z (xi_n0.mp h8)), xo_f (fun z => z (by rw [hz]; decide))]
      · subst hz
        simp [xi_x]
        try rfl
    case g6_i_66 =>
      exact xl_has (by decide) hpre.H (xi_n0.mp h8)
    case g7_w_67 =>
      first | rfl | exact xi_nb
    case g8_r_67 =>
      have hz := xl_tb h23
      refine ⟨?_, xl_some ?_, rfl⟩
      · simp only [ftA_held]
        rw [xo_f (fun z => z (xi_n0.mp h8)), xo_f (fun z => z (by rw [hz]; decide))]
      · subst hz
        simp [xi_x]
        try rfl
    case g9_i_56 =>
      exact xl_has (by decide) hpre.H (xi_n0.mp h8)
    case g10_w_57 =>
      first | rfl | exact xi_nb
    case g11_r_57 =>
      have hz := xl_tb h23
      refine ⟨?_, xl_some ?_, rfl⟩
      · simp only [ftA_held]
        rw [xo_f (fun z => z (xi_n0.mp h8)), xo_f (fun z => z (by rw [hz]; decide))]
      · subst hz
        simp [xi_x]
        try rfl
    case g12_t_11 =>
      refine ⟨rfl, _, rfl, ?_⟩
      simp only [ftA_held]
      try simp only [xi_0, xi_n0] at *
      grind [xo_t, xo_f, Int32.not_lt, Int32.not_le]
def pA_bar (as : List Value) (M : xm_M) : Prop := ∃ p s u : Int32, as = [.ref 0, .int p, .int s, .int u] ∧ xv_I M
noncomputable def fA_bar (as : List Value) (M : xm_M) : Option Value × xm_M := match as with
  | [_, .int p, .int s, .int u] => (none, (xm_up M 14 (p * 8 + s).toNatClampNeg u))
  | _ => (none, M)
noncomputable def ftA_bar (as : List Value) (M : xm_M) : Option String := match as with
  | [_, .int p, .int s, .int u] => xo_ (¬ ((0 ≤ p ∧ p ≤ M 2 0 - 1) ∧ (0 ≤ s ∧ s ≤ 7))) (some "java/lang/IllegalArgumentException") (xo_ (¬ (0 ≤ u ∧ u ≤ 729)) (some "java/lang/IndexOutOfBoundsException") (none))
  | _ => none
noncomputable def tA_bar : List (Nat × xm_C) := [(88, sP_has), (61, sA_isWithin), (65, sA_isDay)]
theorem lA_bar (l : Launch) : ∀ n C, (n, C) ∈ tA_bar → xm_lkS l "AbsenceRows" xt_T xk_ns xr_p xk_cl xk_tA n C ∨ xm_lkV l "AbsenceRows" xt_T xk_ns xr_p xk_cl xk_tA n C := fun n C h => (show ∀ q ∈ tA_bar, xm_lkS l "AbsenceRows" xt_T xk_ns xr_p xk_cl xk_tA q.1 q.2 ∨ xm_lkV l "AbsenceRows" xt_T xk_ns xr_p xk_cl xk_tA q.1 q.2 from List.forall_mem_cons.mpr ⟨Or.inr ⟨xy_P_has, xb_P_has, 2, (some .boolean), xr_ 1, 1, 2, 2, [none, some 8, some 9, some 10, some 11, some 12, some 13, some 14], xk_T2, 8, rfl, rfl, ⟨xe_P_has, xw_39, ⟨by decide, by decide, by decide +kernel⟩, ⟨Nat.le_of_ble_eq_true rfl, Nat.le_of_ble_eq_true rfl⟩, rfl, rfl⟩, xw_372, xw_373, xw_374, rfl, rfl, vP_has, Or.inl ⟨rfl, uP_has, cP_has l⟩⟩, List.forall_mem_cons.mpr ⟨Or.inl ⟨xy_A_isWithin, xb_A_isWithin, 3, (some .boolean), xr_ 0, rfl, ⟨xe_A_isWithin, xw_37, ⟨by decide, by decide, by decide +kernel⟩, ⟨Nat.le_of_ble_eq_true rfl, Nat.le_of_ble_eq_true rfl⟩, rfl, rfl⟩, xw_269, Or.inl xw_268, Or.inl ⟨rfl, uA_isWithin, cA_isWithin l⟩⟩, List.forall_mem_cons.mpr ⟨Or.inl ⟨xy_A_isDay, xb_A_isDay, 1, (some .boolean), xr_ 1, rfl, ⟨xe_A_isDay, xw_37, ⟨by decide, by decide, by decide +kernel⟩, ⟨Nat.le_of_ble_eq_true rfl, Nat.le_of_ble_eq_true rfl⟩, rfl, rfl⟩, xw_272, Or.inl xw_271, Or.inl ⟨rfl, uA_isDay, cA_isDay l⟩⟩, fun _ h => absurd h List.not_mem_nil⟩⟩⟩) (n, C) h
def ttA_bar : List (Nat × xm_Q) := [(21, (91, 276, 95, true, "java/lang/IllegalArgumentException", "no such person or skill")), (39, (69, 118, 73, false, "java/lang/IndexOutOfBoundsException", "no such day"))]
theorem toA_bar : ∀ q ∈ ttA_bar, xm_thr "AbsenceRows" xt_T xk_ns xh_ss xb_A_bar q.1 q.2 := List.forall_mem_cons.mpr ⟨⟨⟨by decide +kernel, by decide +kernel, by decide +kernel, by decide +kernel, by decide +kernel⟩, by decide, xh_cl_IllegalArgumentException, xh_in_IllegalArgumentException, xh_at_IllegalArgumentException, xh_ot_IllegalArgumentException, List.mem_of_getElem? (i := 27) rfl⟩, List.forall_mem_cons.mpr ⟨⟨⟨by decide +kernel, by decide +kernel, by decide +kernel, by decide +kernel, by decide +kernel⟩, by decide, xh_cl_IndexOutOfBoundsException, xh_in_IndexOutOfBoundsException, xh_at_IndexOutOfBoundsException, xh_ot_IndexOutOfBoundsException, List.mem_of_getElem? (i := 7) rfl⟩, fun _ h => absurd h List.not_mem_nil⟩⟩
set_option maxRecDepth 20000 in
set_option maxHeartbeats 4000000 in
theorem cA_bar (l : Launch) (hl : l.stackTraces = false) : xm_Th l xy_A_bar (Cond.code xy_A_bar xb_A_bar 4 none :: xt_T) xr_p "AbsenceRows" xh_ss xk_cl xk_ns xk_tA pA_bar fA_bar ftA_bar := by
  refine xm_mk_th (rt := .int) (fl := xf_A) (ct := tA_bar) (cn := []) (cj := []) (tt := ttA_bar) hl (by decide) xs_A xd_A_bar rfl (Or.inl rfl) (lA_bar l) toA_bar ⟨Nat.le_of_ble_eq_true rfl, Nat.le_of_ble_eq_true rfl, rfl, rfl⟩ (fun _ _ _ _ _ _ _ _ => False) ?_ ?_ ?_ (fun _ _ _ _ _ _ _ _ _ h => h.elim) ?_
  · rintro as M ⟨p, s, u, rfl, hpre⟩; exact Nat.le_of_ble_eq_true rfl
  · rintro as M ⟨p, s, u, rfl, hpre⟩; simp [fA_bar]
  · rintro as M v ⟨p, s, u, rfl, hpre⟩ h; simp [fA_bar] at h
  · rintro as M ⟨p, s, u, rfl, hpre⟩
    refine ⟨600, (And.intro rfl (And.intro rfl (And.intro (Nat.le_of_ble_eq_true rfl) (And.intro (Nat.le_of_ble_eq_true rfl) (And.intro ?g1_c_5 (And.intro (by decide) (And.intro (fun h8 => ?g2_t_21) (fun h8 => (And.intro rfl (And.intro (Nat.le_of_ble_eq_true rfl) (And.intro (Nat.le_of_ble_eq_true rfl) (And.intro ?g3_c_15 (And.intro (by decide) (And.intro (fun h18 => (And.intro rfl (And.intro (Nat.le_of_ble_eq_true rfl) (And.intro (Nat.le_of_ble_eq_true rfl) (And.intro ?g4_c_33 (And.intro (by decide) (And.intro (fun h36 => (And.intro rfl (And.intro rfl (And.intro rfl (And.intro ?g5_i_63 ?g6_r_64))))) (fun h36 => ?g7_t_39)))))))) (fun h18 => ?g8_t_21)))))))))))))))⟩
    case g1_c_5 =>
      exact ⟨_, rfl⟩
    case g2_t_21 =>
      refine ⟨rfl, _, rfl, ?_⟩
      simp only [ftA_bar]
      try simp only [xi_0, xi_n0] at *
      grind [xo_t, xo_f, Int32.not_lt, Int32.not_le]
    case g3_c_15 =>
      exact ⟨_, _, _, rfl⟩
    case g4_c_33 =>
      exact ⟨_, rfl⟩
    case g5_i_63 =>
      exact xl_b8 (xl_has (by decide) hpre.P (xi_n0.mp h8)) (xl_8 (xi_n0.mp h18))
    case g6_r_64 =>
      refine ⟨?_, rfl, rfl⟩
      simp only [ftA_bar]
      try simp only [xi_0, xi_n0] at *
      grind [xo_t, xo_f, Int32.not_lt, Int32.not_le]
    case g7_t_39 =>
      refine ⟨rfl, _, rfl, ?_⟩
      simp only [ftA_bar]
      try simp only [xi_0, xi_n0] at *
      grind [xo_t, xo_f, Int32.not_lt, Int32.not_le]
    case g8_t_21 =>
      refine ⟨rfl, _, rfl, ?_⟩
      simp only [ftA_bar]
      try simp only [xi_0, xi_n0] at *
      grind [xo_t, xo_f, Int32.not_lt, Int32.not_le]
def pA_patience (as : List Value) (M : xm_M) : Prop := ∃ u : Int32, as = [.ref 0, .int u] ∧ xv_I M
noncomputable def fA_patience (as : List Value) (M : xm_M) : Option Value × xm_M := match as with
  | [_, .int u] => (none, (xm_up M 0 7 u))
  | _ => (none, M)
noncomputable def ftA_patience (as : List Value) (M : xm_M) : Option String := match as with
  | [_, .int u] => xo_ (¬ (1 ≤ u ∧ u ≤ 48)) (some "java/lang/IndexOutOfBoundsException") (none)
  | _ => none
noncomputable def tA_patience : List (Nat × xm_C) := [(61, sA_isWithin)]
theorem lA_patience (l : Launch) : ∀ n C, (n, C) ∈ tA_patience → xm_lkS l "AbsenceRows" xt_T xk_ns xr_p xk_cl xk_tA n C ∨ xm_lkV l "AbsenceRows" xt_T xk_ns xr_p xk_cl xk_tA n C := fun n C h => (show ∀ q ∈ tA_patience, xm_lkS l "AbsenceRows" xt_T xk_ns xr_p xk_cl xk_tA q.1 q.2 ∨ xm_lkV l "AbsenceRows" xt_T xk_ns xr_p xk_cl xk_tA q.1 q.2 from List.forall_mem_cons.mpr ⟨Or.inl ⟨xy_A_isWithin, xb_A_isWithin, 3, (some .boolean), xr_ 0, rfl, ⟨xe_A_isWithin, xw_37, ⟨by decide, by decide, by decide +kernel⟩, ⟨Nat.le_of_ble_eq_true rfl, Nat.le_of_ble_eq_true rfl⟩, rfl, rfl⟩, xw_269, Or.inl xw_268, Or.inl ⟨rfl, uA_isWithin, cA_isWithin l⟩⟩, fun _ h => absurd h List.not_mem_nil⟩) (n, C) h
def ttA_patience : List (Nat × xm_Q) := [(10, (69, 281, 73, true, "java/lang/IndexOutOfBoundsException", "hours"))]
theorem toA_patience : ∀ q ∈ ttA_patience, xm_thr "AbsenceRows" xt_T xk_ns xh_ss xb_A_patience q.1 q.2 := List.forall_mem_cons.mpr ⟨⟨⟨by decide +kernel, by decide +kernel, by decide +kernel, by decide +kernel, by decide +kernel⟩, by decide, xh_cl_IndexOutOfBoundsException, xh_in_IndexOutOfBoundsException, xh_at_IndexOutOfBoundsException, xh_ot_IndexOutOfBoundsException, List.mem_of_getElem? (i := 28) rfl⟩, fun _ h => absurd h List.not_mem_nil⟩
set_option maxRecDepth 20000 in
set_option maxHeartbeats 4000000 in
theorem cA_patience (l : Launch) (hl : l.stackTraces = false) : xm_Th l xy_A_patience (Cond.code xy_A_patience xb_A_patience 2 none :: xt_T) xr_p "AbsenceRows" xh_ss xk_cl xk_ns xk_tA pA_patience fA_patience ftA_patience := by
  refine xm_mk_th (rt := .int) (fl := xf_A) (ct := tA_patience) (cn := []) (cj := []) (tt := ttA_patience) hl (by decide) xs_A xd_A_patience rfl (Or.inl rfl) (lA_patience l) toA_patience ⟨Nat.le_of_ble_eq_true rfl, Nat.le_of_ble_eq_true rfl, rfl, rfl⟩ (fun _ _ _ _ _ _ _ _ => False) ?_ ?_ ?_ (fun _ _ _ _ _ _ _ _ _ h => h.elim) ?_
  · rintro as M ⟨u, rfl, hpre⟩; exact Nat.le_of_ble_eq_true rfl
  · rintro as M ⟨u, rfl, hpre⟩; simp [fA_patience]
  · rintro as M v ⟨u, rfl, hpre⟩ h; simp [fA_patience] at h
  · rintro as M ⟨u, rfl, hpre⟩
    refine ⟨600, (And.intro rfl (And.intro (Nat.le_of_ble_eq_true rfl) (And.intro (Nat.le_of_ble_eq_true rfl) (And.intro ?g1_c_4 (And.intro (by decide) (And.intro (fun h7 => (And.intro rfl ?g2_r_26)) (fun h7 => ?g3_t_10)))))))⟩
    case g1_c_4 =>
      exact ⟨_, _, _, rfl⟩
    case g2_r_26 =>
      refine ⟨?_, rfl, rfl⟩
      simp only [ftA_patience]
      try simp only [xi_0, xi_n0] at *
      grind [xo_t, xo_f, Int32.not_lt, Int32.not_le]
    case g3_t_10 =>
      refine ⟨rfl, _, rfl, ?_⟩
      simp only [ftA_patience]
      try simp only [xi_0, xi_n0] at *
      grind [xo_t, xo_f, Int32.not_lt, Int32.not_le]
def pA_call (as : List Value) (M : xm_M) : Prop := ∃ w d : Int32, as = [.ref 0, .int w, .int d] ∧ xv_I M
noncomputable def fA_call (as : List Value) (M : xm_M) : Option Value × xm_M := match as with
  | [_, .int w, .int d] => (some (.int (M 6 0 + 1 - 1)), xm_nx (fL_add [.ref 6, .int w, .int d] M).2 (M 6 0 + 1 - 1))
  | _ => (none, M)
noncomputable def ftA_call (as : List Value) (M : xm_M) : Option String := match as with
  | [_, .int w, .int d] => xo_ (¬ (0 ≤ w ∧ w ≤ M 3 0 - 1)) (some "java/lang/IllegalArgumentException") (xo_ (¬ ((0 ≤ d ∧ d ≤ 729) ∧ M 0 8 / 24 ≤ d)) (some "java/lang/IndexOutOfBoundsException") (xo_ (60 ≤ M 6 0) (some "java/lang/UnsupportedOperationException") (none)))
  | _ => none
noncomputable def tA_call : List (Nat × xm_C) := [(143, sW_has), (65, sA_isDay), (288, sL_add), (289, sA_askNext)]
theorem lA_call (l : Launch) : ∀ n C, (n, C) ∈ tA_call → xm_lkS l "AbsenceRows" xt_T xk_ns xr_p xk_cl xk_tA n C ∨ xm_lkV l "AbsenceRows" xt_T xk_ns xr_p xk_cl xk_tA n C := fun n C h => (show ∀ q ∈ tA_call, xm_lkS l "AbsenceRows" xt_T xk_ns xr_p xk_cl xk_tA q.1 q.2 ∨ xm_lkV l "AbsenceRows" xt_T xk_ns xr_p xk_cl xk_tA q.1 q.2 from List.forall_mem_cons.mpr ⟨Or.inr ⟨xy_W_has, xb_W_has, 2, (some .boolean), xr_ 1, 1, 3, 3, [none, some 15, some 16, some 17], xk_T3, 4, rfl, rfl, ⟨xe_W_has, xw_40, ⟨by decide, by decide, by decide +kernel⟩, ⟨Nat.le_of_ble_eq_true rfl, Nat.le_of_ble_eq_true rfl⟩, rfl, rfl⟩, xw_519, xw_520, xw_521, rfl, rfl, vW_has, Or.inl ⟨rfl, uW_has, cW_has l⟩⟩, List.forall_mem_cons.mpr ⟨Or.inl ⟨xy_A_isDay, xb_A_isDay, 1, (some .boolean), xr_ 1, rfl, ⟨xe_A_isDay, xw_37, ⟨by decide, by decide, by decide +kernel⟩, ⟨Nat.le_of_ble_eq_true rfl, Nat.le_of_ble_eq_true rfl⟩, rfl, rfl⟩, xw_272, Or.inl xw_271, Or.inl ⟨rfl, uA_isDay, cA_isDay l⟩⟩, List.forall_mem_cons.mpr ⟨Or.inr ⟨xy_L_add, xb_L_add, 3, (some .int), xr_ 0, 2, 6, 6, [none, some 28, some 29, some 30, some 31, some 32, some 33], xk_T6, 7, rfl, rfl, ⟨xe_L_add, xw_43, ⟨by decide, by decide, by decide +kernel⟩, ⟨Nat.le_of_ble_eq_true rfl, Nat.le_of_ble_eq_true rfl⟩, rfl, rfl⟩, xw_721, xw_722, xw_723, rfl, rfl, vL_add, Or.inr ⟨rfl, cL_add l⟩⟩, List.forall_mem_cons.mpr ⟨Or.inr ⟨xy_A_askNext, xb_A_askNext, 3, none, xr_ 4, 1, 0, 0, [some 1, some 2, some 3, some 4, some 5, some 6, none, none, none], xk_T0, 9, rfl, rfl, ⟨xe_A_askNext, xw_37, ⟨by decide, by decide, by decide +kernel⟩, ⟨Nat.le_of_ble_eq_true rfl, Nat.le_of_ble_eq_true rfl⟩, rfl, rfl⟩, xw_725, xw_727, xw_12, rfl, rfl, vA_askNext, Or.inr ⟨rfl, cA_askNext l⟩⟩, fun _ h => absurd h List.not_mem_nil⟩⟩⟩⟩) (n, C) h
def ttA_call : List (Nat × xm_Q) := [(11, (91, 256, 95, true, "java/lang/IllegalArgumentException", "no such crew")), (40, (69, 283, 73, true, "java/lang/IndexOutOfBoundsException", "no such day, or it is over")), (63, (79, 286, 83, true, "java/lang/UnsupportedOperationException", "no room for a call"))]
theorem toA_call : ∀ q ∈ ttA_call, xm_thr "AbsenceRows" xt_T xk_ns xh_ss xb_A_call q.1 q.2 := List.forall_mem_cons.mpr ⟨⟨⟨by decide +kernel, by decide +kernel, by decide +kernel, by decide +kernel, by decide +kernel⟩, by decide, xh_cl_IllegalArgumentException, xh_in_IllegalArgumentException, xh_at_IllegalArgumentException, xh_ot_IllegalArgumentException, List.mem_of_getElem? (i := 25) rfl⟩, List.forall_mem_cons.mpr ⟨⟨⟨by decide +kernel, by decide +kernel, by decide +kernel, by decide +kernel, by decide +kernel⟩, by decide, xh_cl_IndexOutOfBoundsException, xh_in_IndexOutOfBoundsException, xh_at_IndexOutOfBoundsException, xh_ot_IndexOutOfBoundsException, List.mem_of_getElem? (i := 29) rfl⟩, List.forall_mem_cons.mpr ⟨⟨⟨by decide +kernel, by decide +kernel, by decide +kernel, by decide +kernel, by decide +kernel⟩, by decide, xh_cl_UnsupportedOperationException, xh_in_UnsupportedOperationException, xh_at_UnsupportedOperationException, xh_ot_UnsupportedOperationException, List.mem_of_getElem? (i := 30) rfl⟩, fun _ h => absurd h List.not_mem_nil⟩⟩⟩
set_option maxRecDepth 20000 in
set_option maxHeartbeats 4000000 in
theorem cA_call (l : Launch) (hl : l.stackTraces = false) : xm_Th l xy_A_call (Cond.code xy_A_call xb_A_call 4 (some .int) :: xt_T) xr_p "AbsenceRows" xh_ss xk_cl xk_ns xk_tA pA_call fA_call ftA_call := by
  refine xm_mk_th (rt := .int) (fl := xf_A) (ct := tA_call) (cn := []) (cj := []) (tt := ttA_call) hl (by decide) xs_A xd_A_call rfl (Or.inr rfl) (lA_call l) toA_call ⟨Nat.le_of_ble_eq_true rfl, Nat.le_of_ble_eq_true rfl, rfl, rfl⟩ (fun _ _ _ _ _ _ _ _ => False) ?_ ?_ ?_ (fun _ _ _ _ _ _ _ _ _ h => h.elim) ?_
  · rintro as M ⟨w, d, rfl, hpre⟩; exact Nat.le_of_ble_eq_true rfl
  · rintro as M ⟨w, d, rfl, hpre⟩; simp [fA_call]
  · rintro as M v ⟨w, d, rfl, hpre⟩ h; simp [fA_call] at h
  · rintro as M ⟨w, d, rfl, hpre⟩
    refine ⟨600, (And.intro rfl (And.intro rfl (And.intro (Nat.le_of_ble_eq_true rfl) (And.intro (Nat.le_of_ble_eq_true rfl) (And.intro ?g1_c_5 (And.intro (by decide) (And.intro (fun h8 => (And.intro rfl (And.intro (Nat.le_of_ble_eq_true rfl) (And.intro (Nat.le_of_ble_eq_true rfl) (And.intro ?g2_c_23 (And.intro (by decide) (And.intro (fun h26 => ?g3_t_40) (fun h26 => (And.intro rfl (And.intro ?g4_n_36 (And.intro (by decide) (And.intro (fun h37 => (And.intro rfl (And.intro rfl (And.intro (by decide) (And.intro (fun h60 => (And.intro rfl (And.intro rfl (And.intro (Nat.le_of_ble_eq_true rfl) (And.intro (Nat.le_of_ble_eq_true rfl) (And.intro ?g5_c_80 (And.intro (Nat.le_of_ble_eq_true rfl) (And.intro rfl (And.intro (Nat.le_of_ble_eq_true rfl) (And.intro (Nat.le_of_ble_eq_true rfl) (And.intro ?g6_c_86 (And.intro ?g7_w_90 ?g8_r_90)))))))))))) (fun h60 => ?g9_t_63)))))) (fun h37 => ?g10_t_40))))))))))))) (fun h8 => ?g11_t_11))))))))⟩
    case g1_c_5 =>
      exact ⟨_, rfl⟩
    case g2_c_23 =>
      exact ⟨_, rfl⟩
    case g3_t_40 =>
      refine ⟨rfl, _, rfl, ?_⟩
      simp only [ftA_call]
      try simp only [xi_0, xi_n0] at *
      grind [xo_t, xo_f, Int32.not_lt, Int32.not_le]
    case g4_n_36 =>
      decide
    case g5_c_80 =>
      exact ⟨_, _, rfl, xl_room (by decide) rfl hpre.L (Int32.not_le.mpr h60)⟩
    case g6_c_86 =>
      exact ⟨_, rfl, xl_cadd (xl_has (by decide) hpre.W (xi_n0.mp h8)) hpre (xl_room (by decide) rfl hpre.L (Int32.not_le.mpr h60))⟩
    case g7_w_90 =>
      first | rfl | exact xi_nb
    case g8_r_90 =>
      refine ⟨?_, rfl, rfl⟩
      simp only [ftA_call]
      try simp only [xi_0, xi_n0] at *
      grind [xo_t, xo_f, Int32.not_lt, Int32.not_le]
    case g9_t_63 =>
      refine ⟨rfl, _, rfl, ?_⟩
      simp only [ftA_call]
      try simp only [xi_0, xi_n0] at *
      grind [xo_t, xo_f, Int32.not_lt, Int32.not_le]
    case g10_t_40 =>
      refine ⟨rfl, _, rfl, ?_⟩
      simp only [ftA_call]
      try simp only [xi_0, xi_n0] at *
      grind [xo_t, xo_f, Int32.not_lt, Int32.not_le]
    case g11_t_11 =>
      refine ⟨rfl, _, rfl, ?_⟩
      simp only [ftA_call]
      try simp only [xi_0, xi_n0] at *
      grind [xo_t, xo_f, Int32.not_lt, Int32.not_le]
def pA_answer (as : List Value) (M : xm_M) : Prop := ∃ k b : Int32, as = [.ref 0, .int k, .int b] ∧ xv_I M
noncomputable def fA_answer (as : List Value) (M : xm_M) : Option Value × xm_M := match as with
  | [_, .int k, .int b] => (some (.int ((@ite xm_M (b = 0) (Classical.propDecidable _) (xm_nx M k) ((fL_fill [.ref 6, .int k] M).2)) 30 k.toNatClampNeg)), @ite xm_M (b = 0) (Classical.propDecidable _) (xm_nx M k) ((fL_fill [.ref 6, .int k] M).2))
  | _ => (none, M)
noncomputable def ftA_answer (as : List Value) (M : xm_M) : Option String := match as with
  | [_, .int k, .int b] => xo_ (¬ (0 ≤ k ∧ k ≤ M 6 0 - 1)) (some "java/lang/IllegalArgumentException") (xo_ (¬ M 30 k.toNatClampNeg = 0) (some "java/lang/IllegalStateException") (none))
  | _ => none
noncomputable def tA_answer : List (Nat × xm_C) := [(293, sL_has), (299, sL_fill), (289, sA_askNext)]
theorem lA_answer (l : Launch) : ∀ n C, (n, C) ∈ tA_answer → xm_lkS l "AbsenceRows" xt_T xk_ns xr_p xk_cl xk_tA n C ∨ xm_lkV l "AbsenceRows" xt_T xk_ns xr_p xk_cl xk_tA n C := fun n C h => (show ∀ q ∈ tA_answer, xm_lkS l "AbsenceRows" xt_T xk_ns xr_p xk_cl xk_tA q.1 q.2 ∨ xm_lkV l "AbsenceRows" xt_T xk_ns xr_p xk_cl xk_tA q.1 q.2 from List.forall_mem_cons.mpr ⟨Or.inr ⟨xy_L_has, xb_L_has, 2, (some .boolean), xr_ 1, 1, 6, 6, [none, some 28, some 29, some 30, some 31, some 32, some 33], xk_T6, 7, rfl, rfl, ⟨xe_L_has, xw_43, ⟨by decide, by decide, by decide +kernel⟩, ⟨Nat.le_of_ble_eq_true rfl, Nat.le_of_ble_eq_true rfl⟩, rfl, rfl⟩, xw_760, xw_761, xw_762, rfl, rfl, vL_has, Or.inl ⟨rfl, uL_has, cL_has l⟩⟩, List.forall_mem_cons.mpr ⟨Or.inr ⟨xy_L_fill, xb_L_fill, 2, none, xr_ 0, 1, 6, 6, [none, some 28, some 29, some 30, some 31, some 32, some 33], xk_T6, 7, rfl, rfl, ⟨xe_L_fill, xw_43, ⟨by decide, by decide, by decide +kernel⟩, ⟨Nat.le_of_ble_eq_true rfl, Nat.le_of_ble_eq_true rfl⟩, rfl, rfl⟩, xw_767, xw_768, xw_769, rfl, rfl, vL_fill, Or.inr ⟨rfl, cL_fill l⟩⟩, List.forall_mem_cons.mpr ⟨Or.inr ⟨xy_A_askNext, xb_A_askNext, 3, none, xr_ 4, 1, 0, 0, [some 1, some 2, some 3, some 4, some 5, some 6, none, none, none], xk_T0, 9, rfl, rfl, ⟨xe_A_askNext, xw_37, ⟨by decide, by decide, by decide +kernel⟩, ⟨Nat.le_of_ble_eq_true rfl, Nat.le_of_ble_eq_true rfl⟩, rfl, rfl⟩, xw_725, xw_727, xw_12, rfl, rfl, vA_askNext, Or.inr ⟨rfl, cA_askNext l⟩⟩, fun _ h => absurd h List.not_mem_nil⟩⟩⟩) (n, C) h
def ttA_answer : List (Nat × xm_Q) := [(11, (91, 294, 95, true, "java/lang/IllegalArgumentException", "no such call")), (34, (102, 297, 106, true, "java/lang/IllegalStateException", "it does not wait"))]
theorem toA_answer : ∀ q ∈ ttA_answer, xm_thr "AbsenceRows" xt_T xk_ns xh_ss xb_A_answer q.1 q.2 := List.forall_mem_cons.mpr ⟨⟨⟨by decide +kernel, by decide +kernel, by decide +kernel, by decide +kernel, by decide +kernel⟩, by decide, xh_cl_IllegalArgumentException, xh_in_IllegalArgumentException, xh_at_IllegalArgumentException, xh_ot_IllegalArgumentException, List.mem_of_getElem? (i := 31) rfl⟩, List.forall_mem_cons.mpr ⟨⟨⟨by decide +kernel, by decide +kernel, by decide +kernel, by decide +kernel, by decide +kernel⟩, by decide, xh_cl_IllegalStateException, xh_in_IllegalStateException, xh_at_IllegalStateException, xh_ot_IllegalStateException, List.mem_of_getElem? (i := 32) rfl⟩, fun _ h => absurd h List.not_mem_nil⟩⟩
set_option maxRecDepth 20000 in
set_option maxHeartbeats 4000000 in
theorem cA_answer (l : Launch) (hl : l.stackTraces = false) : xm_Th l xy_A_answer (Cond.code xy_A_answer xb_A_answer 3 (some .int) :: xt_T) xr_p "AbsenceRows" xh_ss xk_cl xk_ns xk_tA pA_answer fA_answer ftA_answer := by
  refine xm_mk_th (rt := .int) (fl := xf_A) (ct := tA_answer) (cn := []) (cj := []) (tt := ttA_answer) hl (by decide) xs_A xd_A_answer rfl (Or.inr rfl) (lA_answer l) toA_answer ⟨Nat.le_of_ble_eq_true rfl, Nat.le_of_ble_eq_true rfl, rfl, rfl⟩ (fun _ _ _ _ _ _ _ _ => False) ?_ ?_ ?_ (fun _ _ _ _ _ _ _ _ _ h => h.elim) ?_
  · rintro as M ⟨k, b, rfl, hpre⟩; exact Nat.le_of_ble_eq_true rfl
  · rintro as M ⟨k, b, rfl, hpre⟩; simp [fA_answer]
  · rintro as M v ⟨k, b, rfl, hpre⟩ h; simp [fA_answer] at h
  · rintro as M ⟨k, b, rfl, hpre⟩
    refine ⟨600, (And.intro rfl (And.intro rfl (And.intro (Nat.le_of_ble_eq_true rfl) (And.intro (Nat.le_of_ble_eq_true rfl) (And.intro ?g1_c_5 (And.intro (by decide) (And.intro (fun h8 => (And.intro rfl (And.intro rfl (And.intro rfl (And.intro ?g2_i_30 (And.intro (by decide) (And.intro (fun h31 => (And.intro (by decide) (And.intro (fun h46 => (And.intro rfl (And.intro (Nat.le_of_ble_eq_true rfl) (And.intro (Nat.le_of_ble_eq_true rfl) (And.intro ?g3_c_62 (And.intro rfl (And.intro rfl (And.intro rfl (And.intro ?g4_i_73 (And.intro ?g5_w_74 ?g6_r_74)))))))))) (fun h46 => (And.intro rfl (And.intro rfl (And.intro (Nat.le_of_ble_eq_true rfl) (And.intro (Nat.le_of_ble_eq_true rfl) (And.intro ?g7_c_54 (And.intro (by decide) (And.intro rfl (And.intro rfl (And.intro rfl (And.intro ?g8_i_73 (And.intro ?g9_w_74 ?g10_r_74))))))))))))))) (fun h31 => ?g11_t_34)))))))) (fun h8 => ?g12_t_11))))))))⟩
    case g1_c_5 =>
      exact ⟨_, rfl⟩
    case g2_i_30 =>
      exact xl_has (by decide) hpre.L (xi_n0.mp h8)
    case g3_c_62 =>
      exact ⟨_, rfl, xl_has (by decide) hpre.L (xi_n0.mp h8), hpre.c (xi_n0.mp h8), hpre.1⟩
    case g4_i_73 =>
      exact xl_has (by decide) hpre.L (xi_n0.mp h8)
    case g5_w_74 =>
      first | rfl | exact xi_nb
    case g6_r_74 =>
      refine ⟨?_, ?_, ?_⟩
      · simp only [ftA_answer]
        rw [xo_f (fun z => z (xi_n0.mp h8)), xo_f (fun z => z h31)]
      · simp only [fA_answer]
        first | rw [if_pos h46] | rw [if_neg h46]
        all_goals rfl
      · simp only [fA_answer]
        first | rw [if_pos h46] | rw [if_neg h46]
        all_goals rfl
    case g7_c_54 =>
      exact ⟨_, rfl, xl_has (by decide) hpre.L (xi_n0.mp h8)⟩
    case g8_i_73 =>
      exact xl_has (by decide) hpre.L (xi_n0.mp h8)
    case g9_w_74 =>
      first | rfl | exact xi_nb
    case g10_r_74 =>
      refine ⟨?_, ?_, ?_⟩
      · simp only [ftA_answer]
        rw [xo_f (fun z => z (xi_n0.mp h8)), xo_f (fun z => z h31)]
      · simp only [fA_answer]
        first | rw [if_pos h46] | rw [if_neg h46]
        all_goals rfl
      · simp only [fA_answer]
        first | rw [if_pos h46] | rw [if_neg h46]
        all_goals rfl
    case g11_t_34 =>
      refine ⟨rfl, _, rfl, ?_⟩
      simp only [ftA_answer]
      try simp only [xi_0, xi_n0] at *
      grind [xo_t, xo_f, Int32.not_lt, Int32.not_le]
    case g12_t_11 =>
      refine ⟨rfl, _, rfl, ?_⟩
      simp only [ftA_answer]
      try simp only [xi_0, xi_n0] at *
      grind [xo_t, xo_f, Int32.not_lt, Int32.not_le]
def pA_callAt (as : List Value) (M : xm_M) : Prop := ∃ k x : Int32, as = [.ref 0, .int k, .int x] ∧ xv_I M
noncomputable def fA_callAt (as : List Value) (M : xm_M) : Option Value × xm_M := match as with
  | [_, .int k, .int x] => (some (.int (xi_x (x = 0) (M 30 k.toNatClampNeg) (xi_x (x = 1) (M 31 k.toNatClampNeg) (xi_x (x = 2) (xd_bc (M 32 k.toNatClampNeg)) (xi_x (x = 3) (M 33 k.toNatClampNeg) (0)))))), M)
  | _ => (none, M)
noncomputable def ftA_callAt (as : List Value) (M : xm_M) : Option String := match as with
  | [_, .int k, .int x] => xo_ (¬ (0 ≤ k ∧ k ≤ M 6 0 - 1)) (some "java/lang/IllegalArgumentException") (xo_ (¬ (x = 0 ∨ x = 1 ∨ x = 2 ∨ x = 3)) (some "java/lang/IllegalArgumentException") (none))
  | _ => none
noncomputable def tA_callAt : List (Nat × xm_C) := [(293, sL_has), (158, sI_bitCount)]
theorem lA_callAt (l : Launch) : ∀ n C, (n, C) ∈ tA_callAt → xm_lkS l "AbsenceRows" xt_T xk_ns xr_p xk_cl xk_tA n C ∨ xm_lkV l "AbsenceRows" xt_T xk_ns xr_p xk_cl xk_tA n C := fun n C h => (show ∀ q ∈ tA_callAt, xm_lkS l "AbsenceRows" xt_T xk_ns xr_p xk_cl xk_tA q.1 q.2 ∨ xm_lkV l "AbsenceRows" xt_T xk_ns xr_p xk_cl xk_tA q.1 q.2 from List.forall_mem_cons.mpr ⟨Or.inr ⟨xy_L_has, xb_L_has, 2, (some .boolean), xr_ 1, 1, 6, 6, [none, some 28, some 29, some 30, some 31, some 32, some 33], xk_T6, 7, rfl, rfl, ⟨xe_L_has, xw_43, ⟨by decide, by decide, by decide +kernel⟩, ⟨Nat.le_of_ble_eq_true rfl, Nat.le_of_ble_eq_true rfl⟩, rfl, rfl⟩, xw_760, xw_761, xw_762, rfl, rfl, vL_has, Or.inl ⟨rfl, uL_has, cL_has l⟩⟩, List.forall_mem_cons.mpr ⟨Or.inl ⟨xy_I_bitCount, xb_I_bitCount, 1, (some .int), xr_ 0, rfl, ⟨xe_I_bitCount, xw_53, ⟨by decide, by decide, by decide +kernel⟩, ⟨Nat.le_of_ble_eq_true rfl, Nat.le_of_ble_eq_true rfl⟩, rfl, rfl⟩, xw_533, Or.inl xw_532, Or.inl ⟨rfl, uI_bitCount, cI_bitCount l⟩⟩, fun _ h => absurd h List.not_mem_nil⟩⟩) (n, C) h
def ttA_callAt : List (Nat × xm_Q) := [(11, (91, 294, 95, true, "java/lang/IllegalArgumentException", "no such call")), (95, (91, 240, 95, false, "java/lang/IllegalArgumentException", "no such what"))]
theorem toA_callAt : ∀ q ∈ ttA_callAt, xm_thr "AbsenceRows" xt_T xk_ns xh_ss xb_A_callAt q.1 q.2 := List.forall_mem_cons.mpr ⟨⟨⟨by decide +kernel, by decide +kernel, by decide +kernel, by decide +kernel, by decide +kernel⟩, by decide, xh_cl_IllegalArgumentException, xh_in_IllegalArgumentException, xh_at_IllegalArgumentException, xh_ot_IllegalArgumentException, List.mem_of_getElem? (i := 31) rfl⟩, List.forall_mem_cons.mpr ⟨⟨⟨by decide +kernel, by decide +kernel, by decide +kernel, by decide +kernel, by decide +kernel⟩, by decide, xh_cl_IllegalArgumentException, xh_in_IllegalArgumentException, xh_at_IllegalArgumentException, xh_ot_IllegalArgumentException, List.mem_of_getElem? (i := 23) rfl⟩, fun _ h => absurd h List.not_mem_nil⟩⟩
set_option maxRecDepth 20000 in
set_option maxHeartbeats 4000000 in
theorem cA_callAt (l : Launch) (hl : l.stackTraces = false) : xm_Th l xy_A_callAt (Cond.code xy_A_callAt xb_A_callAt 3 (some .int) :: xt_T) xr_p "AbsenceRows" xh_ss xk_cl xk_ns xk_tA pA_callAt fA_callAt ftA_callAt := by
  refine xm_mk_th (rt := .int) (fl := xf_A) (ct := tA_callAt) (cn := []) (cj := []) (tt := ttA_callAt) hl (by decide) xs_A xd_A_callAt rfl (Or.inr rfl) (lA_callAt l) toA_callAt ⟨Nat.le_of_ble_eq_true rfl, Nat.le_of_ble_eq_true rfl, rfl, rfl⟩ (fun _ _ _ _ _ _ _ _ => False) ?_ ?_ ?_ (fun _ _ _ _ _ _ _ _ _ h => h.elim) ?_
  · rintro as M ⟨k, x, rfl, hpre⟩; exact Nat.le_of_ble_eq_true rfl
  · rintro as M ⟨k, x, rfl, hpre⟩; simp [fA_callAt]
  · rintro as M v ⟨k, x, rfl, hpre⟩ h; simp [fA_callAt] at h
  · rintro as M ⟨k, x, rfl, hpre⟩
    refine ⟨600, (And.intro rfl (And.intro rfl (And.intro (Nat.le_of_ble_eq_true rfl) (And.intro (Nat.le_of_ble_eq_true rfl) (And.intro ?g1_c_5 (And.intro (by decide) (And.intro (fun h8 => (And.intro (fun h23 => (And.intro (by decide) ?g2_t_95)) (And.intro (by decide) (And.intro (fun h23 => (And.intro (by decide) (And.intro rfl (And.intro rfl (And.intro rfl (And.intro ?g13_i_60 (And.intro ?g14_w_61 ?g15_r_61))))))) (And.intro (fun h23 => (And.intro (by decide) (And.intro rfl (And.intro rfl (And.intro rfl (And.intro ?g10_i_70 (And.intro ?g11_w_71 ?g12_r_71))))))) (And.intro (fun h23 => (And.intro (by decide) (And.intro rfl (And.intro rfl (And.intro rfl (And.intro ?g6_i_80 (And.intro rfl (And.intro (Nat.le_of_ble_eq_true rfl) (And.intro (Nat.le_of_ble_eq_true rfl) (And.intro ?g7_c_81 (And.intro ?g8_w_84 ?g9_r_84))))))))))) (And.intro (fun h23 => (And.intro (by decide) (And.intro rfl (And.intro rfl (And.intro rfl (And.intro ?g3_i_93 (And.intro ?g4_w_94 ?g5_r_94))))))) True.intro))))))) (fun h8 => ?g16_t_11))))))))⟩
    case g1_c_5 =>
      exact ⟨_, rfl⟩
    case g2_t_95 =>
      refine ⟨rfl, _, rfl, ?_⟩
      simp only [ftA_callAt]
      rw [xo_f (fun z => z (xi_n0.mp h8)), xo_t (fun z => ?_)]
      have hz : ¬ x = 0 ∧ ¬ x = 1 ∧ ¬ x = 2 ∧ ¬ x = 3 := ⟨xl_td h23 _, xl_td h23 _, xl_td h23 _, xl_td h23 _⟩
      grind
    case g3_i_93 =>
      exact xl_has (by decide) hpre.L (xi_n0.mp h8)
    case g4_w_94 =>
      first | rfl | exact xi_nb
    case g5_r_94 =>
      have hz := xl_tb h23
      refine ⟨?_, xl_some ?_, rfl⟩
      · simp only [ftA_callAt]
        rw [xo_f (fun z => z (xi_n0.mp h8)), xo_f (fun z => z (by rw [hz]; decide))]
      · subst hz
        simp [xi_x]
        try rfl
    case g6_i_80 =>
      exact xl_has (by decide) hpre.L (xi_n0.mp h8)
    case g7_c_81 =>
      exact ⟨_, rfl⟩
    case g8_w_84 =>
      first | rfl | exact xi_nb
    case g9_r_84 =>
      have hz := xl_tb h23
      refine ⟨?_, xl_some ?_, rfl⟩
      · simp only [ftA_callAt]
        rw [xo_f (fun z => z (xi_n0.mp h8)), xo_f (fun z => z (by rw [hz]; decide))]
      · subst hz
        simp [xi_x]
        try rfl
    case g10_i_70 =>
      exact xl_has (by decide) hpre.L (xi_n0.mp h8)
    case g11_w_71 =>
      first | rfl | exact xi_nb
    case g12_r_71 =>
      have hz := xl_tb h23
      refine ⟨?_, xl_some ?_, rfl⟩
      · simp only [ftA_callAt]
        rw [xo_f (fun z => z (xi_n0.mp h8)), xo_f (fun z => z (by rw [hz]; decide))]
      · subst hz
        simp [xi_x]
        try rfl
    case g13_i_60 =>
      exact xl_has (by decide) hpre.L (xi_n0.mp h8)
    case g14_w_61 =>
      first | rfl | exact xi_nb
    case g15_r_61 =>
      have hz := xl_tb h23
      refine ⟨?_, xl_some ?_, rfl⟩
      · simp only [ftA_callAt]
        rw [xo_f (fun z => z (xi_n0.mp h8)), xo_f (fun z => z (by rw [hz]; decide))]
      · subst hz
        simp [xi_x]
        try rfl
    case g16_t_11 =>
      refine ⟨rfl, _, rfl, ?_⟩
      simp only [ftA_callAt]
      try simp only [xi_0, xi_n0] at *
      grind [xo_t, xo_f, Int32.not_lt, Int32.not_le]
def pA_asked (as : List Value) (M : xm_M) : Prop := ∃ p : Int32, as = [.ref 0, .int p] ∧ xv_I M
noncomputable def fA_asked (as : List Value) (M : xm_M) : Option Value × xm_M := match as with
  | [_, .int p] => (some (.int (M 13 p.toNatClampNeg)), M)
  | _ => (none, M)
noncomputable def ftA_asked (as : List Value) (M : xm_M) : Option String := match as with
  | [_, .int p] => xo_ (¬ (0 ≤ p ∧ p ≤ M 2 0 - 1)) (some "java/lang/IllegalArgumentException") (none)
  | _ => none
noncomputable def tA_asked : List (Nat × xm_C) := [(88, sP_has)]
theorem lA_asked (l : Launch) : ∀ n C, (n, C) ∈ tA_asked → xm_lkS l "AbsenceRows" xt_T xk_ns xr_p xk_cl xk_tA n C ∨ xm_lkV l "AbsenceRows" xt_T xk_ns xr_p xk_cl xk_tA n C := fun n C h => (show ∀ q ∈ tA_asked, xm_lkS l "AbsenceRows" xt_T xk_ns xr_p xk_cl xk_tA q.1 q.2 ∨ xm_lkV l "AbsenceRows" xt_T xk_ns xr_p xk_cl xk_tA q.1 q.2 from List.forall_mem_cons.mpr ⟨Or.inr ⟨xy_P_has, xb_P_has, 2, (some .boolean), xr_ 1, 1, 2, 2, [none, some 8, some 9, some 10, some 11, some 12, some 13, some 14], xk_T2, 8, rfl, rfl, ⟨xe_P_has, xw_39, ⟨by decide, by decide, by decide +kernel⟩, ⟨Nat.le_of_ble_eq_true rfl, Nat.le_of_ble_eq_true rfl⟩, rfl, rfl⟩, xw_372, xw_373, xw_374, rfl, rfl, vP_has, Or.inl ⟨rfl, uP_has, cP_has l⟩⟩, fun _ h => absurd h List.not_mem_nil⟩) (n, C) h
def ttA_asked : List (Nat × xm_Q) := [(11, (91, 93, 95, false, "java/lang/IllegalArgumentException", "no such person"))]
theorem toA_asked : ∀ q ∈ ttA_asked, xm_thr "AbsenceRows" xt_T xk_ns xh_ss xb_A_asked q.1 q.2 := List.forall_mem_cons.mpr ⟨⟨⟨by decide +kernel, by decide +kernel, by decide +kernel, by decide +kernel, by decide +kernel⟩, by decide, xh_cl_IllegalArgumentException, xh_in_IllegalArgumentException, xh_at_IllegalArgumentException, xh_ot_IllegalArgumentException, List.mem_of_getElem? (i := 2) rfl⟩, fun _ h => absurd h List.not_mem_nil⟩
set_option maxRecDepth 20000 in
set_option maxHeartbeats 4000000 in
theorem cA_asked (l : Launch) (hl : l.stackTraces = false) : xm_Th l xy_A_asked (Cond.code xy_A_asked xb_A_asked 2 (some .int) :: xt_T) xr_p "AbsenceRows" xh_ss xk_cl xk_ns xk_tA pA_asked fA_asked ftA_asked := by
  refine xm_mk_th (rt := .int) (fl := xf_A) (ct := tA_asked) (cn := []) (cj := []) (tt := ttA_asked) hl (by decide) xs_A xd_A_asked rfl (Or.inr rfl) (lA_asked l) toA_asked ⟨Nat.le_of_ble_eq_true rfl, Nat.le_of_ble_eq_true rfl, rfl, rfl⟩ (fun _ _ _ _ _ _ _ _ => False) ?_ ?_ ?_ (fun _ _ _ _ _ _ _ _ _ h => h.elim) ?_
  · rintro as M ⟨p, rfl, hpre⟩; exact Nat.le_of_ble_eq_true rfl
  · rintro as M ⟨p, rfl, hpre⟩; simp [fA_asked]
  · rintro as M v ⟨p, rfl, hpre⟩ h; simp [fA_asked] at h
  · rintro as M ⟨p, rfl, hpre⟩
    refine ⟨600, (And.intro rfl (And.intro rfl (And.intro (Nat.le_of_ble_eq_true rfl) (And.intro (Nat.le_of_ble_eq_true rfl) (And.intro ?g1_c_5 (And.intro (by decide) (And.intro (fun h8 => (And.intro rfl (And.intro rfl (And.intro rfl (And.intro ?g2_i_29 (And.intro ?g3_w_30 ?g4_r_30)))))) (fun h8 => ?g5_t_11))))))))⟩
    case g1_c_5 =>
      exact ⟨_, rfl⟩
    case g2_i_29 =>
      exact xl_has (by decide) hpre.P (xi_n0.mp h8)
    case g3_w_30 =>
      first | rfl | exact xi_nb
    case g4_r_30 =>
      refine ⟨?_, rfl, rfl⟩
      simp only [ftA_asked]
      try simp only [xi_0, xi_n0] at *
      grind [xo_t, xo_f, Int32.not_lt, Int32.not_le]
    case g5_t_11 =>
      refine ⟨rfl, _, rfl, ?_⟩
      simp only [ftA_asked]
      try simp only [xi_0, xi_n0] at *
      grind [xo_t, xo_f, Int32.not_lt, Int32.not_le]
def pA_goOnWithoutAnswer (as : List Value) (M : xm_M) : Prop := as = [.ref 0] ∧ xv_I M
noncomputable def fA_goOnWithoutAnswer (as : List Value) (M : xm_M) : Option Value × xm_M := match as with
  | [_] => (some (.int ((xq_go M (M 6 0).toNatClampNeg).1)), (xq_go M (M 6 0).toNatClampNeg).2)
  | _ => (none, M)
noncomputable abbrev sA_goOnWithoutAnswer : xm_C := (0, 1, 1, pA_goOnWithoutAnswer, fA_goOnWithoutAnswer)
theorem vA_goOnWithoutAnswer : ∀ as M, pA_goOnWithoutAnswer as M → ∃ as1, as = .ref 0 :: as1 := by
  rintro as M ⟨rfl, hpre⟩
  exact ⟨_, rfl⟩
noncomputable def tA_goOnWithoutAnswer : List (Nat × xm_C) := [(289, sA_askNext)]
theorem lA_goOnWithoutAnswer (l : Launch) : ∀ n C, (n, C) ∈ tA_goOnWithoutAnswer → xm_lkS l "AbsenceRows" xt_T xk_ns (xr_ 5) xk_cl xk_tA n C ∨ xm_lkV l "AbsenceRows" xt_T xk_ns (xr_ 5) xk_cl xk_tA n C := fun n C h => (show ∀ q ∈ tA_goOnWithoutAnswer, xm_lkS l "AbsenceRows" xt_T xk_ns (xr_ 5) xk_cl xk_tA q.1 q.2 ∨ xm_lkV l "AbsenceRows" xt_T xk_ns (xr_ 5) xk_cl xk_tA q.1 q.2 from List.forall_mem_cons.mpr ⟨Or.inr ⟨xy_A_askNext, xb_A_askNext, 3, none, xr_ 4, 1, 0, 0, [some 1, some 2, some 3, some 4, some 5, some 6, none, none, none], xk_T0, 9, rfl, rfl, ⟨xe_A_askNext, xw_37, ⟨by decide, by decide, by decide +kernel⟩, ⟨Nat.le_of_ble_eq_true rfl, Nat.le_of_ble_eq_true rfl⟩, rfl, rfl⟩, xw_725, xw_727, xw_12, rfl, rfl, vA_askNext, Or.inr ⟨rfl, cA_askNext l⟩⟩, fun _ h => absurd h List.not_mem_nil⟩) (n, C) h
set_option maxRecDepth 20000 in
set_option maxHeartbeats 2000000 in
theorem cA_goOnWithoutAnswer (l : Launch) : xm_Wr l xy_A_goOnWithoutAnswer (Cond.code xy_A_goOnWithoutAnswer xb_A_goOnWithoutAnswer 3 (some .int) :: xt_T) (xr_ 5) xk_cl xk_ns xk_tA pA_goOnWithoutAnswer fA_goOnWithoutAnswer := by
  refine xm_mk_wr (rt := .int) (fl := xf_A) (ct := tA_goOnWithoutAnswer) (cn := []) (cj := []) (plainFor_of_name (by decide)) xs_A xd_A_goOnWithoutAnswer rfl (Or.inr rfl) (lA_goOnWithoutAnswer l) (fun as M j pc ls st M2 cl => match as with | [_] => (∃ i c : Nat, M 6 0 = nI c ∧ c ≤ 60 ∧ i ≤ c ∧ j = c - i ∧ xv_s M (xq_go M i).2 ∧ pc = 4 ∧ ls = [(0, .ref 0), (1, .int (xq_go M i).1), (2, .int (nI i))] ∧ st = [] ∧ M2 = (xq_go M i).2) | _ => False) ?_ ?_ ?_ ?_ ?_
  · rintro as M ⟨rfl, hpre⟩; exact Nat.le_of_ble_eq_true rfl
  · rintro as M ⟨rfl, hpre⟩; simp [fA_goOnWithoutAnswer]
  · rintro as M v ⟨rfl, hpre⟩ h; first | rfl | (simp [fA_goOnWithoutAnswer] at h)
  · rintro as M ⟨rfl, hpre⟩ j pc ls st M2 cl ⟨i, c, hc, hc20, hic, hj, hs, rfl, rfl, rfl, rfl⟩
    have e6 : (xq_go M i).2 6 = M 6 := hs 6 (by decide) (by decide) (by decide) (by decide) (by decide)
    have e0 : (xq_go M i).2 0 = M 0 := hs 0 (by decide) (by decide) (by decide) (by decide) (by decide)
    have hI2 := hs.I hpre
    refine ⟨400, (And.intro rfl (And.intro rfl (And.intro (by decide) (And.intro (fun h12 => (And.intro ?g1001_w_58 ?g1002_r_58)) (fun h12 => (And.intro rfl (And.intro rfl (And.intro rfl (And.intro ?g1003_i_23 (And.intro (by decide) (And.intro (fun h24 => (And.intro (Nat.le_of_ble_eq_true rfl) (And.intro (by decide) ?g1004_k_4))) (fun h24 => (And.intro rfl (And.intro rfl (And.intro rfl (And.intro ?g1005_i_35 (And.intro rfl (And.intro (by decide) (And.intro (fun h40 => (And.intro (Nat.le_of_ble_eq_true rfl) (And.intro (by decide) ?g1006_k_4))) (fun h40 => (And.intro rfl (And.intro (Nat.le_of_ble_eq_true rfl) (And.intro (Nat.le_of_ble_eq_true rfl) (And.intro ?g1007_c_45 (And.intro (Nat.le_of_ble_eq_true rfl) (And.intro (Nat.le_of_ble_eq_true rfl) (And.intro (by decide) ?g1008_k_4)))))))))))))))))))))))))))⟩
    case g1001_w_58 =>
      first | rfl | exact xi_nb
    case g1002_r_58 =>
      rw [e6] at h12
      obtain rfl := xl_end hc (by omega) hic (by assumption)
      refine ⟨xl_some ?_, ?_⟩
      · rw [hc, nI_clamp (by omega)]
      · simp only [fA_goOnWithoutAnswer]
        rw [hc, nI_clamp (by omega)]
    case g1003_i_23 =>
      rw [e6] at h12
      exact vp_in_nI (Nat.lt_of_lt_of_le (xl_lt hc hic h12) hc20) (by decide)
    case g1004_k_4 =>
      rw [e6] at h12
      have hlt := xl_lt hc hic h12
      have e1 : (nI i).toNatClampNeg = i := nI_clamp (by omega)
      simp only [e1, e0] at *
      by_cases hz : (xq_go M i).2 30 i = 0 ∧ (xq_go M i).2 33 i ≤ M 0 8
      · have e5 := xq_go1t hz
        refine ⟨c - (i + 1), by omega, i + 1, c, hc, hc20, by omega, rfl, xq_go_s M (i + 1), rfl, ?_, rfl, ?_⟩
        · rw [nI_succ, e5]; all_goals first | rfl | grind [Int32.not_lt, Int32.not_le]
        · rw [e5]; all_goals first | rfl | grind [Int32.not_lt, Int32.not_le]
      · have e5 := xq_go1f hz
        refine ⟨c - (i + 1), by omega, i + 1, c, hc, hc20, by omega, rfl, xq_go_s M (i + 1), rfl, ?_, rfl, ?_⟩
        · rw [nI_succ, e5]; all_goals first | rfl | grind [Int32.not_lt, Int32.not_le]
        · rw [e5]; all_goals first | rfl | grind [Int32.not_lt, Int32.not_le]
    case g1005_i_35 =>
      rw [e6] at h12
      exact vp_in_nI (Nat.lt_of_lt_of_le (xl_lt hc hic h12) hc20) (by decide)
    case g1006_k_4 =>
      rw [e6] at h12
      have hlt := xl_lt hc hic h12
      have e1 : (nI i).toNatClampNeg = i := nI_clamp (by omega)
      simp only [e1, e0] at *
      by_cases hz : (xq_go M i).2 30 i = 0 ∧ (xq_go M i).2 33 i ≤ M 0 8
      · have e5 := xq_go1t hz
        refine ⟨c - (i + 1), by omega, i + 1, c, hc, hc20, by omega, rfl, xq_go_s M (i + 1), rfl, ?_, rfl, ?_⟩
        · rw [nI_succ, e5]; all_goals first | rfl | grind [Int32.not_lt, Int32.not_le]
        · rw [e5]; all_goals first | rfl | grind [Int32.not_lt, Int32.not_le]
      · have e5 := xq_go1f hz
        refine ⟨c - (i + 1), by omega, i + 1, c, hc, hc20, by omega, rfl, xq_go_s M (i + 1), rfl, ?_, rfl, ?_⟩
        · rw [nI_succ, e5]; all_goals first | rfl | grind [Int32.not_lt, Int32.not_le]
        · rw [e5]; all_goals first | rfl | grind [Int32.not_lt, Int32.not_le]
    case g1007_c_45 =>
      rw [e6] at h12
      have hlt := xl_lt hc hic h12
      refine ⟨_, rfl, vp_in_nI (Nat.lt_of_lt_of_le hlt hc20) (by decide), hI2.2.2.2 _ ?_, hI2.1⟩
      rw [e6, hc, nI_clamp (by omega), nI_clamp (by omega)]; exact hlt
    case g1008_k_4 =>
      rw [e6] at h12
      have hlt := xl_lt hc hic h12
      have e1 : (nI i).toNatClampNeg = i := nI_clamp (by omega)
      simp only [e1, e0] at *
      by_cases hz : (xq_go M i).2 30 i = 0 ∧ (xq_go M i).2 33 i ≤ M 0 8
      · have e5 := xq_go1t hz
        refine ⟨c - (i + 1), by omega, i + 1, c, hc, hc20, by omega, rfl, xq_go_s M (i + 1), rfl, ?_, rfl, ?_⟩
        · rw [nI_succ, e5]; all_goals first | rfl | grind [Int32.not_lt, Int32.not_le]
        · rw [e5]; all_goals first | rfl | grind [Int32.not_lt, Int32.not_le]
      · have e5 := xq_go1f hz
        refine ⟨c - (i + 1), by omega, i + 1, c, hc, hc20, by omega, rfl, xq_go_s M (i + 1), rfl, ?_, rfl, ?_⟩
        · rw [nI_succ, e5]; all_goals first | rfl | grind [Int32.not_lt, Int32.not_le]
        · rw [e5]; all_goals first | rfl | grind [Int32.not_lt, Int32.not_le]
  · rintro as M ⟨rfl, hpre⟩
    refine ⟨400, (And.intro (Nat.le_of_ble_eq_true rfl) (And.intro (Nat.le_of_ble_eq_true rfl) ?g1_k_4))⟩
    case g1_k_4 =>
      obtain ⟨c0, h1, h2⟩ := hpre.L
      exact ⟨c0 - 0, 0, c0, h2, h1, Nat.zero_le _, rfl, xv_s.rf M, rfl, rfl, rfl, rfl⟩
def pA_tick (as : List Value) (M : xm_M) : Prop := ∃ u : Int32, as = [.ref 0, .int u] ∧ xv_I M
noncomputable def fA_tick (as : List Value) (M : xm_M) : Option Value × xm_M := match as with
  | [_, .int u] => (some (.int (xq_tk (M 0 8 + u) u.toNatClampNeg (0, M)).1), xm_up (xq_tk (M 0 8 + u) u.toNatClampNeg (0, M)).2 0 8 (M 0 8 + u))
  | _ => (none, M)
noncomputable def ftA_tick (as : List Value) (M : xm_M) : Option String := match as with
  | [_, .int u] => xo_ (¬ ((1 ≤ u ∧ u ≤ 2000) ∧ u ≤ 17519 - M 0 8)) (some "java/lang/IndexOutOfBoundsException") (none)
  | _ => none
noncomputable def tA_tick : List (Nat × xm_C) := [(61, sA_isWithin), (312, sL_earliestNextAt), (316, sA_goOnWithoutAnswer)]
theorem lA_tick (l : Launch) : ∀ n C, (n, C) ∈ tA_tick → xm_lkS l "AbsenceRows" xt_T xk_ns xr_p xk_cl xk_tA n C ∨ xm_lkV l "AbsenceRows" xt_T xk_ns xr_p xk_cl xk_tA n C := fun n C h => (show ∀ q ∈ tA_tick, xm_lkS l "AbsenceRows" xt_T xk_ns xr_p xk_cl xk_tA q.1 q.2 ∨ xm_lkV l "AbsenceRows" xt_T xk_ns xr_p xk_cl xk_tA q.1 q.2 from List.forall_mem_cons.mpr ⟨Or.inl ⟨xy_A_isWithin, xb_A_isWithin, 3, (some .boolean), xr_ 0, rfl, ⟨xe_A_isWithin, xw_37, ⟨by decide, by decide, by decide +kernel⟩, ⟨Nat.le_of_ble_eq_true rfl, Nat.le_of_ble_eq_true rfl⟩, rfl, rfl⟩, xw_269, Or.inl xw_268, Or.inl ⟨rfl, uA_isWithin, cA_isWithin l⟩⟩, List.forall_mem_cons.mpr ⟨Or.inr ⟨xy_L_earliestNextAt, xb_L_earliestNextAt, 3, (some .int), xr_ 0, 0, 6, 6, [none, some 28, some 29, some 30, some 31, some 32, some 33], xk_T6, 7, rfl, rfl, ⟨xe_L_earliestNextAt, xw_43, ⟨by decide, by decide, by decide +kernel⟩, ⟨Nat.le_of_ble_eq_true rfl, Nat.le_of_ble_eq_true rfl⟩, rfl, rfl⟩, xw_792, xw_793, xw_794, rfl, rfl, vL_earliestNextAt, Or.inl ⟨rfl, uL_earliestNextAt, cL_earliestNextAt l⟩⟩, List.forall_mem_cons.mpr ⟨Or.inr ⟨xy_A_goOnWithoutAnswer, xb_A_goOnWithoutAnswer, 3, (some .int), xr_ 5, 0, 0, 0, [some 1, some 2, some 3, some 4, some 5, some 6, none, none, none], xk_T0, 9, rfl, rfl, ⟨xe_A_goOnWithoutAnswer, xw_37, ⟨by decide, by decide, by decide +kernel⟩, ⟨Nat.le_of_ble_eq_true rfl, Nat.le_of_ble_eq_true rfl⟩, rfl, rfl⟩, xw_796, xw_798, xw_14, rfl, rfl, vA_goOnWithoutAnswer, Or.inr ⟨rfl, cA_goOnWithoutAnswer l⟩⟩, fun _ h => absurd h List.not_mem_nil⟩⟩⟩) (n, C) h
def ttA_tick : List (Nat × xm_Q) := [(23, (69, 281, 73, true, "java/lang/IndexOutOfBoundsException", "hours"))]
theorem toA_tick : ∀ q ∈ ttA_tick, xm_thr "AbsenceRows" xt_T xk_ns xh_ss xb_A_tick q.1 q.2 := List.forall_mem_cons.mpr ⟨⟨⟨by decide +kernel, by decide +kernel, by decide +kernel, by decide +kernel, by decide +kernel⟩, by decide, xh_cl_IndexOutOfBoundsException, xh_in_IndexOutOfBoundsException, xh_at_IndexOutOfBoundsException, xh_ot_IndexOutOfBoundsException, List.mem_of_getElem? (i := 28) rfl⟩, fun _ h => absurd h List.not_mem_nil⟩
set_option maxRecDepth 20000 in
set_option maxHeartbeats 4000000 in
theorem cA_tick (l : Launch) (hl : l.stackTraces = false) : xm_Th l xy_A_tick (Cond.code xy_A_tick xb_A_tick 6 (some .int) :: xt_T) xr_p "AbsenceRows" xh_ss xk_cl xk_ns xk_tA pA_tick fA_tick ftA_tick := by
  refine xm_mk_th (rt := .int) (fl := xf_A) (ct := tA_tick) (cn := []) (cj := []) (tt := ttA_tick) hl (by decide) xs_A xd_A_tick rfl (Or.inr rfl) (lA_tick l) toA_tick ⟨Nat.le_of_ble_eq_true rfl, Nat.le_of_ble_eq_true rfl, rfl, rfl⟩ (fun as M j pc ls st M2 cl => match as with | [_, .int u] => (∃ (i n : Nat) (s : Int32 × xm_M), u = nI n ∧ n ≤ 2000 ∧ i ≤ n ∧ j = n - i ∧ xq_tk (M 0 8 + u) (n - i) s = xq_tk (M 0 8 + u) n (0, M) ∧ xv_I s.2 ∧ ftA_tick [.ref 0, .int u] M = none ∧ pc = 46 ∧ ls = [(0, .ref 0), (1, .int u), (2, .int (M 0 8 + u)), (3, .int s.1), (4, .int (nI i))] ∧ st = [] ∧ M2 = s.2) | _ => False) ?_ ?_ ?_ ?_ ?_
  · rintro as M ⟨u, rfl, hpre⟩; exact Nat.le_of_ble_eq_true rfl
  · rintro as M ⟨u, rfl, hpre⟩; simp [fA_tick]
  · rintro as M v ⟨u, rfl, hpre⟩ h; simp [fA_tick] at h
  · rintro as M ⟨u, rfl, hpre⟩ j pc ls st M2 cl ⟨i, n, s, hu, hn, hi, hj, hq, hI, hft, rfl, rfl, rfl, rfl⟩
    refine ⟨600, (And.intro (by decide) (And.intro (fun h49 => (And.intro rfl (And.intro ?g1001_w_101 ?g1002_r_101))) (fun h49 => (And.intro rfl (And.intro rfl (And.intro (Nat.le_of_ble_eq_true rfl) (And.intro (Nat.le_of_ble_eq_true rfl) (And.intro ?g1003_c_56 (And.intro (Nat.le_of_ble_eq_true rfl) (And.intro (by decide) (And.intro (fun h64 => (And.intro rfl (And.intro ?g1004_w_101 ?g1005_r_101))) (fun h64 => (And.intro (by decide) (And.intro (fun h70 => (And.intro rfl (And.intro rfl (And.intro (Nat.le_of_ble_eq_true rfl) (And.intro (Nat.le_of_ble_eq_true rfl) (And.intro ?g1006_c_84 (And.intro (Nat.le_of_ble_eq_true rfl) (And.intro (Nat.le_of_ble_eq_true rfl) (And.intro (by decide) ?g1007_k_46))))))))) (fun h70 => (And.intro (by decide) (And.intro rfl (And.intro ?g1008_w_101 ?g1009_r_101))))))))))))))))))⟩
    case g1001_w_101 =>
      first | rfl | exact xi_nb
    case g1002_r_101 =>
      refine ⟨hft, ?_, ?_⟩
      all_goals
        simp only [fA_tick]
        rw [hu, nI_clamp (by omega), ← hu, ← hq]
        first
        | (rw [xq_tk1t (s := s) (e := M 0 8 + u) (Or.inl h64)]; done)
        | (rw [xq_tk1t (s := s) (e := M 0 8 + u) (Or.inr (Int32.not_le.mp h70))]; done)
        | (rw [xq_tk1t (s := s) (e := M 0 8 + u) (Or.inl h64)]; rfl)
        | (rw [xq_tk1t (s := s) (e := M 0 8 + u) (Or.inr (Int32.not_le.mp h70))]; rfl)
        | (rw [xl_end hu (by omega) hi h49, Nat.sub_self]; rfl)
    case g1003_c_56 =>
      exact ⟨rfl, hI.L⟩
    case g1004_w_101 =>
      first | rfl | exact xi_nb
    case g1005_r_101 =>
      refine ⟨hft, ?_, ?_⟩
      all_goals
        simp only [fA_tick]
        rw [hu, nI_clamp (by omega), ← hu, ← hq]
        first
        | (rw [xq_tk1t (s := s) (e := M 0 8 + u) (Or.inl h64)]; done)
        | (rw [xq_tk1t (s := s) (e := M 0 8 + u) (Or.inr (Int32.not_le.mp h70))]; done)
        | (rw [xq_tk1t (s := s) (e := M 0 8 + u) (Or.inl h64)]; rfl)
        | (rw [xq_tk1t (s := s) (e := M 0 8 + u) (Or.inr (Int32.not_le.mp h70))]; rfl)
        | (rw [xl_end hu (by omega) hi h49, Nat.sub_self]; rfl)
    case g1006_c_84 =>
      exact ⟨rfl, hI.hr _⟩
    case g1007_k_46 =>
      have hlt := xl_lt hu hi h49
      have hz : ¬ (xq_n s.2 = -1 ∨ M 0 8 + u < xq_n s.2) := fun z => z.elim h64 (Int32.not_lt.mpr h70)
      refine ⟨n - (i + 1), by omega, i + 1, n, xq_r s (xq_n s.2), hu, hn, by omega, rfl, ?_, hI.r _, hft, rfl, ?_, rfl, rfl⟩
      · rw [← hq, show n - i = n - (i + 1) + 1 by omega, xq_tk1f hz]
      · rw [nI_succ]; rfl
    case g1008_w_101 =>
      first | rfl | exact xi_nb
    case g1009_r_101 =>
      refine ⟨hft, ?_, ?_⟩
      all_goals
        simp only [fA_tick]
        rw [hu, nI_clamp (by omega), ← hu, ← hq]
        first
        | (rw [xq_tk1t (s := s) (e := M 0 8 + u) (Or.inl h64)]; done)
        | (rw [xq_tk1t (s := s) (e := M 0 8 + u) (Or.inr (Int32.not_le.mp h70))]; done)
        | (rw [xq_tk1t (s := s) (e := M 0 8 + u) (Or.inl h64)]; rfl)
        | (rw [xq_tk1t (s := s) (e := M 0 8 + u) (Or.inr (Int32.not_le.mp h70))]; rfl)
        | (rw [xl_end hu (by omega) hi h49, Nat.sub_self]; rfl)
  · rintro as M ⟨u, rfl, hpre⟩
    refine ⟨600, (And.intro rfl (And.intro (Nat.le_of_ble_eq_true rfl) (And.intro (Nat.le_of_ble_eq_true rfl) (And.intro ?g1_c_5 (And.intro (by decide) (And.intro (fun h8 => ?g2_t_23) (fun h8 => (And.intro rfl (And.intro (by decide) (And.intro (fun h20 => (And.intro rfl (And.intro (Nat.le_of_ble_eq_true rfl) (And.intro (Nat.le_of_ble_eq_true rfl) (And.intro (Nat.le_of_ble_eq_true rfl) ?g3_k_46))))) (fun h20 => ?g4_t_23)))))))))))⟩
    case g1_c_5 =>
      exact ⟨_, _, _, rfl⟩
    case g2_t_23 =>
      refine ⟨rfl, _, rfl, ?_⟩
      simp only [ftA_tick]
      rw [xo_t (fun z => by first | exact xi_0.mp h8 z.1 | exact absurd z.2 (Int32.not_le.mpr h20) | exact h20 z.2)]
    case g3_k_46 =>
      have hz : (1 ≤ u ∧ u ≤ 2000) ∧ u ≤ 17519 - M 0 8 := ⟨xi_n0.mp h8, h20⟩
      have hv : vp_in u 2001 := by
        rw [vp_in_iff]
        obtain ⟨⟨h1, h2⟩, -⟩ := hz
        rw [Int32.le_iff_toInt_le] at h1 h2
        have e0 : (1 : Int32).toInt = 1 := rfl
        have e1 : (2000 : Int32).toInt = 2000 := rfl
        omega
      obtain ⟨n0, hn0, hu0⟩ := vp_in_of hv (by decide)
      refine ⟨n0 - 0, 0, n0, (0, M), hu0, by omega, Nat.zero_le _, rfl, rfl, hpre, ?_, rfl, rfl, rfl, rfl⟩
      simp only [ftA_tick]
      rw [xo_f (fun z => z hz)]
    case g4_t_23 =>
      refine ⟨rfl, _, rfl, ?_⟩
      simp only [ftA_tick]
      rw [xo_t (fun z => by first | exact xi_0.mp h8 z.1 | exact absurd z.2 (Int32.not_le.mpr h20) | exact h20 z.2)]
end
