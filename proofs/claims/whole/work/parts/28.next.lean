/-! THE NEXT THAT IS ASKED -/
theorem xm_up_o {M : xm_M} {p k q : Nat} {x : Int32} (h : q ≠ p) : xm_up M p k x q = M q := by
  funext b; simp [xm_up, h]
theorem xm_up_s {M : xm_M} {p k j : Nat} {x : Int32} : xm_up M p k x p j = if j = k then x else M p j := by simp [xm_up]
/-- what is known of the call k itself -/
def zk0 (M N : xm_M) (np nc k : Nat) : Prop := M 28 k = N 22 k ∧ M 29 k = N 23 k ∧ M 31 k = N 25 k ∧ (∃ c, c < nc ∧ N 22 k = nI c) ∧ (N 25 k = -1 ∨ ∃ q, q < np ∧ N 25 k = nI q ∧ zb (M 32 k) q = true)
theorem zk1.zk0 {M N : xm_M} {np nc lo k : Nat} (h : zk1 M N np nc lo k) : zk0 M N np nc k := by
  obtain ⟨⟨a1, a2, a3, a4, a5⟩, b, c⟩ := h
  refine ⟨a1, a2, a4, b, ?_⟩
  rcases c with ⟨-, c, -⟩ | ⟨-, c, -⟩ | ⟨-, c, -⟩
  · exact Or.inr c
  · exact Or.inr c
  · exact Or.inl c
theorem z_eng {M N : xm_M} {np nc nk k : Nat} {lo : Nat → Nat} (hnp : np ≤ 20) (hK : zKx M N np nc nk lo k) (h0 : zk0 M N np nc k) (hk : k < nk) {p : Nat} (hp : p < np) (hkm : zkm M N np k) : (zb (xd_eng M (M 29 k)) p = false ∧ zb (M 32 k) p = false) ↔ (ym_fr N (nI p) (nI k) ∧ N 28 (k * 20 + p) = 0) := by
  obtain ⟨h1, h2, h3, h4⟩ := hK
  have hkp := hkm.2.2 p (by omega)
  have hmask : N 28 (k * 20 + p) = 0 ↔ zb (M 32 k) p = false := by
    rw [hkp]; cases zb (M 32 k) p <;> simp
  rw [hmask]
  have key : zb (M 32 k) p = false → (zb (xd_eng M (M 29 k)) p = true ↔ ∃ i, i < nk ∧ ym_fri N (nI p) (nI k) i) := by
    intro hz
    unfold xd_eng
    rw [h2, nI_clamp (by omega), xq_o_zb]
    constructor
    · rintro ⟨i, hi, h⟩
      by_cases c : M 29 i = M 29 k ∧ ¬ M 31 i = -1
      · by_cases e : i = k
        · subst e
          obtain ⟨-, -, a3, -, a5⟩ := h0
          rcases a5 with a5 | ⟨q, q1, q2, q3⟩
          · exact absurd (a3.trans a5) c.2
          · rw [a3, q2] at h
            obtain ⟨-, rfl⟩ := (xi_w_zb (by omega)).mp h
            rw [hz] at q3; cases q3
        · obtain ⟨⟨e1, e2, e3, e4, e5⟩, -, hcs⟩ := h4 i hi e
          have hq : ∃ q, q < np ∧ N 25 i = nI q ∧ ¬ N 24 i = 2 := by
            rcases hcs with ⟨s, ⟨q, q1, q2, -⟩, -⟩ | ⟨s, ⟨q, q1, q2, -⟩, -⟩ | ⟨-, s, -⟩
            · exact ⟨q, q1, q2, by rw [s]; decide⟩
            · exact ⟨q, q1, q2, by rw [s]; decide⟩
            · exact absurd (e4.trans s) c.2
          obtain ⟨q, q1, q2, q3⟩ := hq
          rw [e4, q2] at h
          obtain ⟨-, rfl⟩ := (xi_w_zb (by omega)).mp h
          refine ⟨i, hi, fun z => e ((nI_eq (by omega) (by omega)).mp z), ?_, q3, q2⟩
          rw [nI_clamp (by omega), ← e2, ← h0.2.1]; exact c.1
      · rw [xi_wf c, zb_zero] at h; cases h
    · rintro ⟨i, hi, b1, b2, b3, b4⟩
      have e : i ≠ k := fun z => b1 (by rw [z])
      obtain ⟨⟨e1, e2, e3, e4, e5⟩, -, -⟩ := h4 i hi e
      refine ⟨i, hi, ?_⟩
      rw [e4, b4]
      refine (xi_w_zb (by omega)).mpr ⟨⟨?_, xq_ne (by omega)⟩, rfl⟩
      rw [nI_clamp (by omega)] at b2
      rw [e2, h0.2.1]; exact b2
  have hfr : ym_fr N (nI p) (nI k) ↔ ¬ ∃ i, i < nk ∧ ym_fri N (nI p) (nI k) i := by
    unfold ym_fr
    rw [h3, nI_clamp (by omega)]
    constructor
    · rintro h ⟨i, hi, z⟩; exact h i hi z
    · intro h i hi z; exact h ⟨i, hi, z⟩
  constructor
  · rintro ⟨a, b⟩
    refine ⟨hfr.mpr (fun z => ?_), b⟩
    rw [(key b).mpr z] at a; cases a
  · rintro ⟨a, b⟩
    refine ⟨?_, b⟩
    cases hz : zb (xd_eng M (M 29 k)) p with
    | false => rfl
    | true => exact absurd ((key b).mp hz) (hfr.mp a)
theorem z_ok {M N : xm_M} {np nc na nk k : Nat} {lo : Nat → Nat} (hP : zP M N np) (hC : zC M N np nc) (hA : zA M N np na) (hK : zKx M N np nc nk lo k) (h0 : zk0 M N np nc k) (hk : k < nk) (hkm : zkm M N np k) {n : Nat} (hn : n < np) :
    (¬ xd_can M (M 28 k) (M 29 k) (nI k) &&& ((1 : Int32) <<< (nI n &&& 31)) = 0 ∧ xd_hs M (nI n) (M 15 (M 28 k).toNatClampNeg) (M 29 k)) ↔ ym_ok N (nI k) n := by
  have hnp := hP.1
  have hnk := hK.1
  obtain ⟨a1, a2, a3, ⟨c, hc, ec⟩, a5⟩ := id h0
  have hnc := hC.1
  obtain ⟨w, hw, ew⟩ := hC.2.2.2.2.1 c hc
  have h15 := hC.2.2.2.1.1
  have e1 := z_eng hnp hK h0 hk hn hkm
  have e2 := z_aw hP hA (M 29 k) (p := n)
  have e3 := z_mem hC (c := c) (p := n) (by omega) (by omega)
  unfold ym_ok xd_can
  rw [zb_hold (by omega), Bool.not_eq_false, zb_and, zb_and, zb_and, zb_not (by omega), zb_not (by omega), zb_not (by omega), nI_clamp (by omega), ← a1, ← a2, a1, ec, nI_clamp (by omega), z_idx (by omega) (by omega), z_idx (by omega) (by omega), h15, ew, z_sk hP hn hw]
  rw [Bool.and_eq_true, Bool.and_eq_true, Bool.and_eq_true, e2, Bool.not_eq_true', Bool.not_eq_true', Bool.not_eq_true']
  have e3' : zb (M 17 c) n = false ↔ N 11 (c * 20 + n) = 0 := by
    rw [← Bool.not_eq_true, ← e3]; exact Classical.not_not
  rw [e3']
  constructor
  · rintro ⟨⟨⟨⟨⟨b1, b2, b3⟩, b4⟩, b5⟩, b6⟩, b7⟩
    obtain ⟨g1, g2⟩ := e1.mp ⟨b5, b6⟩
    exact ⟨b2, b4, b3, b7, g2, g1⟩
  · rintro ⟨b2, b4, b3, b7, g2, g1⟩
    obtain ⟨b5, b6⟩ := e1.mpr ⟨g1, g2⟩
    exact ⟨⟨⟨⟨⟨hn, b2, b3⟩, b4⟩, b5⟩, b6⟩, b7⟩
theorem ym_b_ok (N : xm_M) (k : Int32) : ∀ n, ym_b N k n = -1 ∨ ∃ m, m < n ∧ ym_ok N k m ∧ ym_b N k n = nI m
  | 0 => Or.inl rfl
  | n + 1 => by
    show xi_x (ym_ok N k n ∧ ym_bt N n (ym_b N k n)) (nI n) (ym_b N k n) = -1 ∨ ∃ m, m < n + 1 ∧ ym_ok N k m ∧ xi_x (ym_ok N k n ∧ ym_bt N n (ym_b N k n)) (nI n) (ym_b N k n) = nI m
    by_cases c : ym_ok N k n ∧ ym_bt N n (ym_b N k n)
    · rw [xi_xt c]; exact Or.inr ⟨n, by omega, c.1, rfl⟩
    · rw [xi_xf c]
      rcases ym_b_ok N k n with h | ⟨m, h1, h2, h3⟩
      · exact Or.inl h
      · exact Or.inr ⟨m, by omega, h2, h3⟩
theorem z_b {M N : xm_M} {np nc na nk k : Nat} {lo : Nat → Nat} (hP : zP M N np) (hC : zC M N np nc) (hA : zA M N np na) (hK : zKx M N np nc nk lo k) (h0 : zk0 M N np nc k) (hk : k < nk) (hkm : zkm M N np k) : ∀ n, n ≤ np → xq_b M (xd_can M (M 28 k) (M 29 k) (nI k)) (M 15 (M 28 k).toNatClampNeg) (M 29 k) n = ym_b N (nI k) n
  | 0, _ => rfl
  | n + 1, hn => by
    have hnp := hP.1
    have ih := z_b hP hC hA hK h0 hk hkm n (by omega)
    rw [xq_b1, ih]
    show _ = xi_x (ym_ok N (nI k) n ∧ ym_bt N n (ym_b N (nI k) n)) (nI n) (ym_b N (nI k) n)
    have hcond : (¬ xd_can M (M 28 k) (M 29 k) (nI k) &&& ((1 : Int32) <<< (nI n &&& 31)) = 0 ∧ xd_hs M (nI n) (M 15 (M 28 k).toNatClampNeg) (M 29 k) ∧ (ym_b N (nI k) n = -1 ∨ xd_gb M (nI n) (ym_b N (nI k) n))) ↔ (ym_ok N (nI k) n ∧ ym_bt N n (ym_b N (nI k) n)) := by
      rw [← and_assoc, z_ok hP hC hA hK h0 hk hkm (by omega)]
      have hbt : (ym_b N (nI k) n = -1 ∨ xd_gb M (nI n) (ym_b N (nI k) n)) ↔ ym_bt N n (ym_b N (nI k) n) := by
        obtain ⟨-, -, -, ⟨-, e9, -, -, -, e13, -⟩, -⟩ := hP
        unfold xd_gb ym_bt
        rw [e9, e13, nI_clamp (by omega)]
        rcases ym_b_ok N (nI k) n with h | ⟨m, h1, h2, h3⟩
        · rw [h]; exact ⟨fun _ => Or.inl (by decide), fun _ => Or.inl rfl⟩
        · rw [h3, nI_clamp (by omega)]
          have n1 : ¬ nI m = -1 := xq_ne (by omega)
          have n2 : ¬ nI m < 0 := nI_pos (by omega)
          constructor
          · rintro (z | z)
            · exact absurd z n1
            · by_cases c : N 3 n = N 3 m
              · rw [if_pos c] at z; exact Or.inr (Or.inr ⟨c, z⟩)
              · rw [if_neg c] at z; exact Or.inr (Or.inl z)
          · rintro (z | z | ⟨z1, z2⟩)
            · exact absurd z n2
            · refine Or.inr ?_
              rw [if_neg (fun c => by rw [c] at z; exact absurd z Int32.lt_irrefl)]; exact z
            · refine Or.inr ?_
              rw [if_pos z1]; exact z2
      rw [hbt]
    rw [propext hcond]
theorem z_nxe {M N : xm_M} {np nc na nk k : Nat} {lo : Nat → Nat} (hP : zP M N np) (hC : zC M N np nc) (hA : zA M N np na) (hK : zKx M N np nc nk lo k) (h0 : zk0 M N np nc k) (hk : k < nk) (hkm : zkm M N np k) : xd_nx M (nI k) = ym_bk N (nI k) ∧ (ym_bk N (nI k) = -1 ∨ ∃ m, m < np ∧ zb (M 32 k) m = false ∧ ym_bk N (nI k) = nI m) := by
  have hnp := hP.1
  have hnk := hK.1
  have e1 : xd_nx M (nI k) = ym_bk N (nI k) := by
    unfold xd_nx ym_bk
    rw [nI_clamp (by omega), hP.2.1, hP.2.2.1, nI_clamp (by omega)]
    exact z_b hP hC hA hK h0 hk hkm np (Nat.le_refl _)
  refine ⟨e1, ?_⟩
  unfold ym_bk
  rw [hP.2.2.1, nI_clamp (by omega)]
  rcases ym_b_ok N (nI k) np with h | ⟨m, h1, h2, h3⟩
  · exact Or.inl h
  · refine Or.inr ⟨m, h1, ?_, h3⟩
    obtain ⟨-, -, -, -, h4, -⟩ := h2
    rw [z_idx (by omega) (by omega), hkm.2.2 m (by omega)] at h4
    cases hz : zb (M 32 k) m with
    | false => rfl
    | true => rw [hz] at h4; exact absurd h4 (by decide)
theorem zc_or {x : Int32} {m : Nat} (hm : m < 20) (h : zb x m = false) : zc (x ||| ((1 : Int32) <<< (nI m &&& 31))) 20 = zc x 20 + 1 := by
  refine zc_drop (p := m) (by rw [zb_or, zb_on (by omega)]; simp) h (fun q hq => ?_) 20 hm
  rw [zb_or, zb_on (by omega)]
  have : decide (m = q) = false := by simp; omega
  rw [this, Bool.or_false]
set_option maxHeartbeats 1000000 in
theorem z_nx {M N : xm_M} {np nc na nh nk cr pt h k : Nat} {lo : Nat → Nat} (hP : zP M N np) (hC : zC M N np nc) (hA : zA M N np na) (hQ : zQ M N nh) (hK : zKx M N np nc nk lo k) (h0 : zk0 M N np nc k) (hk : k < nk) (hkm : ∀ j, j < 60 → zkm M N np j) (hz : ∀ j, nk ≤ j → M 32 j = 0) (hG : zG M N cr pt h) (e30 : M 30 k = 0) :
    (zP (xm_nx M (nI k)) (ym_nx N (nI k)) np ∧ zC (xm_nx M (nI k)) (ym_nx N (nI k)) np nc ∧ zA (xm_nx M (nI k)) (ym_nx N (nI k)) np na ∧ zQ (xm_nx M (nI k)) (ym_nx N (nI k)) nh ∧ zG (xm_nx M (nI k)) (ym_nx N (nI k)) cr pt h) ∧ zK (xm_nx M (nI k)) (ym_nx N (nI k)) np nc nk (fun j => if j = k then h + 1 else lo j) ∧ (ym_nx N (nI k)) 0 = N 0 := by
  have hnp := hP.1
  have hnk := hK.1
  have hk32 : k < 2 ^ 31 := by omega
  obtain ⟨e1, e2⟩ := z_nxe hP hC hA hK h0 hk (hkm k (by omega))
  obtain ⟨a1, a2, a3, a4, -⟩ := h0
  unfold xm_nx ym_nx
  rw [e1]
  rcases e2 with e2 | ⟨m, hm, hmz, e2⟩
  · -- nobody
    rw [e2, if_pos rfl, if_pos (by decide)]
    unfold xm_fl ym_n3
    rw [e2, nI_clamp hk32, xi_xt (by decide), xi_xt (by decide)]
    refine ⟨⟨hP, hC, hA, hQ, hG⟩, ⟨hK.1, hK.2.1, hK.2.2.1, fun j hj => ?_, hkm, hz⟩, rfl⟩
    show zk1 _ _ np nc (if j = k then h + 1 else lo j) j
    by_cases ej : j = k
    · subst ej
      rw [if_pos rfl]
      refine ⟨⟨a1, a2, ?_, ?_, ?_⟩, a4, Or.inr (Or.inr ⟨?_, ?_, ?_⟩)⟩ <;> simp [xm_up]
    · rw [if_neg ej]
      have := hK.2.2.2 j hj ej
      unfold zk1 at this ⊢
      simpa [xm_up, ej] using this
  · rw [e2, if_neg (xq_ne (by omega)), if_neg (nI_pos (by omega))]
    unfold xm_an ym_n3
    rw [e2, nI_clamp hk32, nI_clamp (by omega), xi_xf (nI_pos (by omega)), xi_xf (nI_pos (by omega)), z_idx (by omega) (by omega)]
    obtain ⟨p1, p2, p3, ⟨p4, p5, p6, p7, p8, p9, p10⟩, p11, p12, p13, p14⟩ := hP
    obtain ⟨g1, g2, g3, ⟨g4, g5, g6, g7⟩, ⟨g8, g9, g10⟩, g11⟩ := hG
    refine ⟨⟨⟨p1, p2, p3, ⟨p4, p5, p6, p7, p8, ?_, p10⟩, p11, p12, p13, p14⟩, hC, hA, hQ, g1, g2, g3, ⟨g4, g5, g6, g7⟩, ⟨g8, g9, g10⟩, g11⟩, ⟨hK.1, hK.2.1, hK.2.2.1, fun j hj => ?_, fun j hj => ?_, fun j hj => ?_⟩, rfl⟩
    · funext b
      simp [xm_up, p9]
    · show zk1 _ _ np nc (if j = k then h + 1 else lo j) j
      by_cases ej : j = k
      · subst ej
        rw [if_pos rfl]
        refine ⟨⟨a1, a2, ?_, ?_, ?_⟩, a4, Or.inl ⟨?_, ⟨m, hm, ?_, ?_⟩, h + pt, by omega, by omega, ?_⟩⟩
        · simp [xm_up, e30]
        · simp [xm_up]
        · simp [xm_up, g6, g7, g9, g10]
        · simp [xm_up]
        · simp [xm_up]
        · simp only [xm_up, Nat.reduceEqDiff, if_true, if_false]
          rw [zb_or, zb_on (by omega)]; simp
        · simp [xm_up, g7, g10, nI_add]
      · rw [if_neg ej]
        have := hK.2.2.2 j hj ej
        unfold zk1 at this ⊢
        simpa [xm_up, ej] using this
    · obtain ⟨k1, k2, k3⟩ := hkm j hj
      by_cases ej : j = k
      · subst ej
        refine ⟨?_, ?_, fun p hp => ?_⟩
        · intro p hp
          simp only [xm_up, Nat.reduceEqDiff, if_true, if_false]
          rw [zb_or, zb_on (by omega), k1 p hp]
          simp; omega
        · simp [xm_up]
          rw [zc_or (by omega) hmz, k2, nI_1]
        · simp only [xm_up, Nat.reduceEqDiff, if_true, if_false]
          have k3p := k3 p hp
          by_cases ep : p = m
          · subst ep
            rw [zb_or, zb_on (by omega)]; simp
          · rw [zb_or, zb_on (by omega)]
            have n1 : ¬ j * 20 + p = j * 20 + m := by omega
            have n2 : decide (m = p) = false := by simp; omega
            simp [n1, n2, k3p, ep]
      · refine ⟨?_, ?_, fun p hp => ?_⟩
        · simpa [xm_up, ej] using k1
        · simpa [xm_up, ej] using k2
        · have n1 : ¬ j * 20 + p = k * 20 + m := by omega
          simpa [xm_up, ej, n1] using k3 p hp
    · have ej : j ≠ k := by omega
      simpa [xm_up, ej] using hz j hj
