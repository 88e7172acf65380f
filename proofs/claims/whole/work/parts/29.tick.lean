/-! TICK: hour by hour, and from one hour at which a call goes on to the next -/
def zR' (M N : xm_M) (np nc na nh nk cr pt h : Nat) (lo : Nat → Nat) : Prop := zP M N np ∧ zC M N np nc ∧ zA M N np na ∧ zQ M N nh ∧ zK M N np nc nk lo ∧ zG M N cr pt h
theorem zcs.lo {st pe due mask : Int32} {np lo lo' : Nat} (h : zcs st pe due mask np lo) (hl : st = 0 → ∀ t, lo ≤ t → t ≤ 17600 → due = nI t → lo' ≤ t) : zcs st pe due mask np lo' := by
  rcases h with ⟨a, b, t, t1, t2, t3⟩ | h | h
  · exact Or.inl ⟨a, b, t, hl a t t1 t2 t3, t2, t3⟩
  · exact Or.inr (Or.inl h)
  · exact Or.inr (Or.inr h)
theorem zK.lo {M N : xm_M} {np nc nk : Nat} {lo lo' : Nat → Nat} (h : zK M N np nc nk lo) (hl : ∀ k, k < nk → N 24 k = 0 → ∀ t, lo k ≤ t → t ≤ 17600 → N 27 k = nI t → lo' k ≤ t) : zK M N np nc nk lo' := by
  obtain ⟨h1, h2, h3, h4, h5, h6⟩ := h
  exact ⟨h1, h2, h3, fun k hk => ⟨(h4 k hk).1, (h4 k hk).2.1, (h4 k hk).2.2.lo (hl k hk)⟩, h5, h6⟩
theorem z_go {M N : xm_M} {np nc na nh nk cr pt h : Nat} (hR : zR' M N np nc na nh nk cr pt h (fun _ => h)) : ∀ n, n ≤ nk → (xq_go M n).1 = (ym_go N n).1 ∧ zR' (xq_go M n).2 (ym_go N n).2 np nc na nh nk cr pt h (fun j => if j < n then h + 1 else h) ∧ (ym_go N n).2 0 = N 0
  | 0, _ => by
    refine ⟨rfl, ?_, rfl⟩
    obtain ⟨a, b, c, d, e, f⟩ := hR
    refine ⟨a, b, c, d, e.lo (fun k hk _ t ht _ _ => ?_), f⟩
    rw [if_neg (by omega)]; exact ht
  | n + 1, hn => by
    obtain ⟨i1, ⟨hP, hC, hA, hQ, hK, hG⟩, i3⟩ := z_go hR n (by omega)
    have hnk := hK.1
    obtain ⟨k1, k2, k3, k4, k5, k6⟩ := id hK
    have hk := k4 n (by omega)
    have hhr : h ≤ 17519 := hG.2.2.2.2.1.1
    have e08 : M 0 8 = nI h := hR.2.2.2.2.2.2.2.2.2.1.2.1
    have e01 : (ym_go N n).2 0 1 = nI h := hG.2.2.2.2.1.2.2
    obtain ⟨⟨b1, b2, b3, b4, b5⟩, bc, bs⟩ := id hk
    by_cases c : (ym_go N n).2 24 n = 0 ∧ (ym_go N n).2 27 n ≤ (ym_go N n).2 0 1
    · have c' : (xq_go M n).2 30 n = 0 ∧ (xq_go M n).2 33 n ≤ M 0 8 := by
        rw [b3, b5, e08, ← e01]; exact c
      rw [xq_go1t c']
      have eN : ym_go N (n + 1) = ((ym_go N n).1 + 1, ym_nx (ym_go N n).2 (nI n)) := if_pos c
      rw [eN]
      have hx := z_nx (lo := fun j => if j < n then h + 1 else h) hP hC hA hQ ⟨k1, k2, k3, fun j hj _ => k4 j hj⟩ hk.zk0 (by omega) k5 k6 hG c'.1
      obtain ⟨⟨x1, x2, x3, x4, x5⟩, x6, x7⟩ := hx
      refine ⟨by try dsimp only
                 rw [i1], ⟨x1, x2, x3, x4, x6.lo (fun k hk _ t ht _ _ => ?_), x5⟩, x7.trans i3⟩
      try dsimp only at ht ⊢
      by_cases e1 : k = n
      · rw [if_pos e1] at ht
        rw [if_pos (by omega)]; exact ht
      · rw [if_neg e1] at ht
        by_cases e2 : k < n
        · rw [if_pos e2] at ht
          rw [if_pos (by omega)]; exact ht
        · rw [if_neg e2] at ht
          rw [if_neg (by omega)]; exact ht
    · have c' : ¬ ((xq_go M n).2 30 n = 0 ∧ (xq_go M n).2 33 n ≤ M 0 8) := by
        rw [b3, b5, e08, ← e01]; exact c
      rw [xq_go1f c']
      have eN : ym_go N (n + 1) = ym_go N n := if_neg c
      rw [eN]
      refine ⟨i1, ⟨hP, hC, hA, hQ, hK.lo (fun k hk z t ht htt et => ?_), hG⟩, i3⟩
      try dsimp only at ht ⊢
      by_cases e2 : k < n
      · rw [if_pos e2] at ht
        rw [if_pos (by omega)]; exact ht
      · rw [if_neg e2] at ht
        by_cases e1 : k = n
        · subst e1
          rw [if_pos (by omega)]
          rcases Nat.lt_or_ge h t with q | q
          · exact q
          · exact absurd ⟨z, by rw [et, e01]; exact nI_le q (by omega)⟩ c
        · rw [if_neg (by omega)]; exact ht
/-! the earliest -/
theorem xq_m_spec {x : Nat → Int32} : ∀ n, (∀ i, i < n → x i = -1 ∨ ∃ t, t ≤ 17600 ∧ x i = nI t) → (xq_m x n = -1 ∧ ∀ i, i < n → x i = -1) ∨ (∃ t i, t ≤ 17600 ∧ i < n ∧ xq_m x n = nI t ∧ x i = nI t ∧ ∀ j t', j < n → t' ≤ 17600 → x j = nI t' → t ≤ t')
  | 0, _ => Or.inl ⟨rfl, fun i hi => absurd hi (Nat.not_lt_zero _)⟩
  | n + 1, h => by
    have ih := xq_m_spec n (fun i hi => h i (by omega))
    show (xi_x (¬ x n = -1 ∧ (xq_m x n = -1 ∨ x n < xq_m x n)) (x n) (xq_m x n) = -1 ∧ _) ∨ (∃ t i, t ≤ 17600 ∧ i < n + 1 ∧ xi_x (¬ x n = -1 ∧ (xq_m x n = -1 ∨ x n < xq_m x n)) (x n) (xq_m x n) = nI t ∧ _)
    rcases h n (by omega) with hn | ⟨t, ht, et⟩
    · rw [xi_xf (fun z => z.1 hn)]
      rcases ih with ⟨a, b⟩ | ⟨t, i, a1, a2, a3, a4, a5⟩
      · refine Or.inl ⟨a, fun i hi => ?_⟩
        rcases (show i < n ∨ i = n by omega) with z | rfl
        · exact b i z
        · exact hn
      · refine Or.inr ⟨t, i, a1, by omega, a3, a4, fun j t' hj ht' ej => ?_⟩
        rcases (show j < n ∨ j = n by omega) with z | rfl
        · exact a5 j t' z ht' ej
        · rw [hn] at ej; exact absurd ej.symm (xq_ne (by omega))
    · have n1 : ¬ x n = -1 := by rw [et]; exact xq_ne (by omega)
      rcases ih with ⟨a, b⟩ | ⟨s, i, a1, a2, a3, a4, a5⟩
      · rw [xi_xt ⟨n1, Or.inl a⟩]
        refine Or.inr ⟨t, n, ht, by omega, et, et, fun j t' hj ht' ej => ?_⟩
        rcases (show j < n ∨ j = n by omega) with z | rfl
        · rw [b j z] at ej; exact absurd ej.symm (xq_ne (by omega))
        · rw [et] at ej
          have := (nI_eq (by omega) (by omega)).mp ej
          omega
      · by_cases c : t < s
        · rw [xi_xt ⟨n1, Or.inr (by rw [et, a3]; exact nI_lt c (by omega))⟩]
          refine Or.inr ⟨t, n, ht, by omega, et, et, fun j t' hj ht' ej => ?_⟩
          rcases (show j < n ∨ j = n by omega) with z | rfl
          · have := a5 j t' z ht' ej; omega
          · rw [et] at ej
            have := (nI_eq (by omega) (by omega)).mp ej
            omega
        · rw [xi_xf (fun z => by
            rcases z.2 with q | q
            · rw [a3] at q; exact xq_ne (by omega) q
            · rw [et, a3, nI_ltI (by omega) (by omega)] at q; exact c q)]
          refine Or.inr ⟨s, i, a1, by omega, a3, a4, fun j t' hj ht' ej => ?_⟩
          rcases (show j < n ∨ j = n by omega) with z | rfl
          · exact a5 j t' z ht' ej
          · rw [et] at ej
            have := (nI_eq (by omega) (by omega)).mp ej
            omega
theorem z_dues {M N : xm_M} {np nc nk : Nat} {lo : Nat → Nat} (hK : zK M N np nc nk lo) : ∀ i, i < nk → M 33 i = -1 ∨ ∃ t, t ≤ 17600 ∧ M 33 i = nI t := by
  intro i hi
  obtain ⟨⟨-, -, -, -, b5⟩, -, bs⟩ := hK.2.2.2.1 i hi
  rw [b5]
  rcases bs with ⟨-, -, t, -, t2, t3⟩ | ⟨-, -, t⟩ | ⟨-, -, t⟩
  · exact Or.inr ⟨t, t2, t3⟩
  · exact Or.inl t
  · exact Or.inl t
noncomputable def zit : Nat → Int32 × xm_M → Int32 × xm_M
  | 0, s => s
  | n + 1, s => zit n (ym_h s)
theorem zit_0 (s : Int32 × xm_M) : zit 0 s = s := rfl
theorem zit_1 (n : Nat) (s : Int32 × xm_M) : zit (n + 1) s = zit n (ym_h s) := rfl
theorem zit_h (n : Nat) : ∀ s, zit n (ym_h s) = ym_h (zit n s) := by
  induction n with
  | zero => intro s; rw [zit_0, zit_0]
  | succ n ih => intro s; rw [zit_1, zit_1, ih]
theorem ym_tk_zit (N : xm_M) : ∀ n, ym_tk N n = zit n (0, N)
  | 0 => rfl
  | n + 1 => by
    show ym_h (ym_tk N n) = zit n (ym_h (0, N))
    rw [ym_tk_zit N n, zit_h]
theorem xq_tk_hr (e : Int32) (n : Nat) (c : Int32) (M : xm_M) (x y : Int32) : (xq_tk e n (c, xm_up M 0 8 x)).1 = (xq_tk e n (c, M)).1 ∧ xm_up (xq_tk e n (c, xm_up M 0 8 x)).2 0 8 y = xm_up (xq_tk e n (c, M)).2 0 8 y := by
  have en : xq_n (xm_up M 0 8 x) = xq_n M := rfl
  by_cases h : xq_n M = -1 ∨ e < xq_n M
  · rw [xq_tk1t (s := (c, xm_up M 0 8 x)) h, xq_tk1t (s := (c, M)) h]
    exact ⟨rfl, xm_up_up _ _ _ _ _⟩
  · cases n with
    | zero => exact ⟨rfl, xm_up_up _ _ _ _ _⟩
    | succ n =>
      rw [xq_tk1f (s := (c, xm_up M 0 8 x)) h, xq_tk1f (s := (c, M)) h]
      have er : xq_r (c, xm_up M 0 8 x) (xq_n (xm_up M 0 8 x)) = xq_r (c, M) (xq_n M) := by
        unfold xq_r
        try dsimp only
        rw [xm_up_up]; rfl
      try dsimp only at er ⊢
      rw [er]
      exact ⟨rfl, rfl⟩
theorem ym_go_no {N : xm_M} : ∀ n, (∀ i, i < n → ¬ (N 24 i = 0 ∧ N 27 i ≤ N 0 1)) → ym_go N n = (0, N)
  | 0, _ => rfl
  | n + 1, h => by
    have ih := ym_go_no n (fun i hi => h i (by omega))
    have : ym_go N (n + 1) = ym_go N n := if_neg (by rw [ih]; exact h n (by omega))
    rw [this, ih]
theorem zR'.hour {M N : xm_M} {np nc na nh nk cr pt h h' : Nat} {lo : Nat → Nat} (hR : zR' M N np nc na nh nk cr pt h lo) (hh : h' ≤ 17519) : zR' (xm_up M 0 8 (nI h')) (xm_up N 0 1 (nI h')) np nc na nh nk cr pt h' lo := by
  obtain ⟨a, b, c, d, e, f1, f2, f3, ⟨f4, f5, f6, f7⟩, ⟨f8, f9, f10⟩, f11⟩ := hR
  exact ⟨a, b, c, d, e, f1, f2, f3, ⟨f4, f5, f6, f7⟩, ⟨hh, rfl, rfl⟩, f11⟩
theorem z_tk {e : Nat} (he : e ≤ 17519) {np nc na nh nk cr pt : Nat} : ∀ (r n h : Nat) (c : Int32) (M N : xm_M), r ≤ n → h + r = e → zR' M N np nc na nh nk cr pt h (fun _ => h + 1) →
    (xq_tk (nI e) n (c, M)).1 = (zit r (c, N)).1 ∧ zR' (xm_up (xq_tk (nI e) n (c, M)).2 0 8 (nI e)) (zit r (c, N)).2 np nc na nh nk cr pt e (fun _ => e + 1) ∧ (zit r (c, N)).2 0 0 = N 0 0
  | 0, n, h, c, M, N, hn, hh, hR => by
    obtain rfl : h = e := by omega
    obtain ⟨hP, hC, hA, hQ, hK, hG⟩ := id hR
    have hstop : xq_n M = -1 ∨ nI h < xq_n M := by
      unfold xq_n
      rw [hK.2.1, nI_clamp (by have := hK.1; omega)]
      rcases xq_m_spec nk (z_dues hK) with ⟨a, -⟩ | ⟨t, i, a1, a2, a3, a4, -⟩
      · exact Or.inl a
      · refine Or.inr ?_
        rw [a3]
        obtain ⟨⟨-, -, -, -, b5⟩, -, bs⟩ := hK.2.2.2.1 i a2
        rcases bs with ⟨-, -, t', t1, t2, t3⟩ | ⟨-, -, t'⟩ | ⟨-, -, t'⟩
        · have t1 : h + 1 ≤ t' := t1
          rw [← b5, a4] at t3
          have := (nI_eq (by omega) (by omega)).mp t3
          exact nI_lt (by omega) (by omega)
        · rw [← b5, a4] at t'; exact absurd t' (xq_ne (by omega))
        · rw [← b5, a4] at t'; exact absurd t' (xq_ne (by omega))
    rw [xq_tk1t (s := (c, M)) hstop]
    refine ⟨rfl, ?_, rfl⟩
    have e08 : M 0 8 = nI h := hG.2.2.2.2.1.2.1
    show zR' (xm_up M 0 8 (nI h)) N np nc na nh nk cr pt h _
    rw [← e08, xm_up_id]
    exact hR
  | r + 1, n, h, c, M, N, hn, hh, hR => by
    obtain ⟨hP, hC, hA, hQ, hK, hG⟩ := id hR
    have hnk := hK.1
    have e01 : N 0 1 = nI h := hG.2.2.2.2.1.2.2
    have e028 : N 0 28 = nI nk := hK.2.2.1
    have e60 : M 6 0 = nI nk := hK.2.1
    have eh : ym_h (c, N) = (c + (ym_go (xm_up N 0 1 (nI (h + 1))) nk).1, (ym_go (xm_up N 0 1 (nI (h + 1))) nk).2) := by
      unfold ym_h
      try dsimp only
      rw [e01, e028, nI_clamp (by omega), nI_1]
    have hR1 := hR.hour (h' := h + 1) (by omega)
    show _ = (zit r (ym_h (c, N))).1 ∧ zR' _ (zit r (ym_h (c, N))).2 np nc na nh nk cr pt e _ ∧ (zit r (ym_h (c, N))).2 0 0 = N 0 0
    rw [eh]
    by_cases cB : xq_n M = nI (h + 1)
    · have hgo := z_go hR1 nk (Nat.le_refl _)
      obtain ⟨g1, g2, g3⟩ := hgo
      have hr : xq_r (c, M) (xq_n M) = (c + (ym_go (xm_up N 0 1 (nI (h + 1))) nk).1, (xq_go (xm_up M 0 8 (nI (h + 1))) nk).2) := by
        unfold xq_r
        try dsimp only
        rw [cB, e60, nI_clamp (by omega), g1]
      obtain ⟨n', rfl⟩ : ∃ n', n = n' + 1 := ⟨n - 1, by omega⟩
      have hns : ¬ (xq_n M = -1 ∨ nI e < xq_n M) := by
        rw [cB]
        rintro (z | z)
        · exact xq_ne (by omega) z
        · rw [nI_ltI (by omega) (by omega)] at z; omega
      rw [xq_tk1f (s := (c, M)) hns]
      try dsimp only
      rw [hr]
      obtain ⟨x1, x2, x3, x4, x5, x6⟩ := g2
      have ih := z_tk he r n' (h + 1) (c + (ym_go (xm_up N 0 1 (nI (h + 1))) nk).1) (xq_go (xm_up M 0 8 (nI (h + 1))) nk).2 (ym_go (xm_up N 0 1 (nI (h + 1))) nk).2 (by omega) (by omega) ⟨x1, x2, x3, x4, x5.lo (fun k hk _ t ht _ _ => by rw [if_pos hk] at ht; exact ht), x6⟩
      refine ⟨ih.1, ih.2.1, ih.2.2.trans ?_⟩
      rw [g3]; rfl
    · have hno : ∀ i, i < nk → N 24 i = 0 → ∀ t, t ≤ 17600 → N 27 i = nI t → h + 2 ≤ t := by
        intro i hi hz t ht et
        obtain ⟨⟨-, -, -, -, b5⟩, -, bs⟩ := hK.2.2.2.1 i hi
        have hle : h + 1 ≤ t := by
          rcases bs with ⟨-, -, t', t1, t2, t3⟩ | ⟨s, -⟩ | ⟨s, -⟩
          · have t1 : h + 1 ≤ t' := t1
            rw [et] at t3
            have := (nI_eq (by omega) (by omega)).mp t3
            omega
          · rw [hz] at s; exact absurd s (by decide)
          · rw [hz] at s; exact absurd s (by decide)
        rcases (show h + 2 ≤ t ∨ t = h + 1 by omega) with q | rfl
        · exact q
        · exfalso
          apply cB
          unfold xq_n
          rw [e60, nI_clamp (by omega)]
          rcases xq_m_spec nk (z_dues hK) with ⟨-, a⟩ | ⟨s, j, a1, a2, a3, a4, a5⟩
          · have := a i hi
            rw [b5, et] at this; exact absurd this (xq_ne (by omega))
          · have h1 := a5 i (h + 1) hi ht (by rw [b5]; exact et)
            obtain ⟨⟨-, -, -, -, d5⟩, -, ds⟩ := hK.2.2.2.1 j a2
            have h2 : h + 1 ≤ s := by
              rcases ds with ⟨-, -, t', t1, t2, t3⟩ | ⟨-, -, t'⟩ | ⟨-, -, t'⟩
              · have t1 : h + 1 ≤ t' := t1
                rw [← d5, a4] at t3
                have := (nI_eq (by omega) (by omega)).mp t3
                omega
              · rw [← d5, a4] at t'; exact absurd t' (xq_ne (by omega))
              · rw [← d5, a4] at t'; exact absurd t' (xq_ne (by omega))
            rw [a3]; congr 1; omega
      have hgo : ym_go (xm_up N 0 1 (nI (h + 1))) nk = (0, xm_up N 0 1 (nI (h + 1))) := by
        refine ym_go_no nk (fun i hi ⟨z1, z2⟩ => ?_)
        have z1 : N 24 i = 0 := z1
        have z2 : N 27 i ≤ nI (h + 1) := z2
        obtain ⟨-, -, bs⟩ := hK.2.2.2.1 i hi
        rcases bs with ⟨-, -, t', t1, t2, t3⟩ | ⟨s, -⟩ | ⟨s, -⟩
        · have := hno i hi z1 t' t2 t3
          rw [t3, nI_leI (by omega) (by omega)] at z2
          omega
        · rw [z1] at s; exact absurd s (by decide)
        · rw [z1] at s; exact absurd s (by decide)
      rw [hgo]
      obtain ⟨x1, x2, x3, x4, x5, x6⟩ := hR1
      have ih := z_tk he r n (h + 1) c (xm_up M 0 8 (nI (h + 1))) (xm_up N 0 1 (nI (h + 1))) (by omega) (by omega) ⟨x1, x2, x3, x4, x5.lo (fun k hk z t ht htt et => hno k hk z t htt et), x6⟩
      obtain ⟨t1, t2⟩ := xq_tk_hr (nI e) n c M (nI (h + 1)) (nI e)
      rw [t1, t2] at ih
      try dsimp only
      rw [show c + 0 = c from xi_add0 c]
      exact ⟨ih.1, ih.2.1, ih.2.2⟩
