/-! a line more in the draft -/
section DU
variable {D : m_V} {N : m_L} {S : Nat → Int32} {M : Nat → Int64} {p c : Nat}
theorem wr_of {w : List Nat} (h : isWd w) : wr (c5 w) (c8 w) := ⟨w, h, rfl, rfl⟩
theorem DR_section {w : List Nat} (hw : isWd w) {l : Nat} (l1 : 1 ≤ l) (l2 : l ≤ 30) (h : DR p D N S M) (hc : ct D 0 = c) (h12 : c < 12) : DR p (u2 (u2 D 1 0 (nI (c + 1))) 3 c (nI l)) (u2l N 2 (0 * 12 + c) (c5 w)) (upS (upS (S) (8 + c) (nI l)) 0 (nI (c + 1))) (uM M (0 + c) (c8 w)) := by
  obtain ⟨C, D0, D1, D2, D3, D4, D6⟩ := h
  have bd := C.1.bd
  generalize hD' : u2 (u2 D 1 0 (nI (c + 1))) 3 c (nI l) = D'
  generalize hS' : upS (upS (S) (8 + c) (nI l)) 0 (nI (c + 1)) = S'
  generalize hN : u2l N 2 (0 * 12 + c) (c5 w) = N'
  generalize hM : uM M (0 + c) (c8 w) = M'
  have row : ∀ j, ¬ j = 1 → ¬ j = 3 → D' j = D j := fun j h1 h2 => by rw [← hD', u2_row (by omega), u2_row (by omega)]
  have e1 : D' 1 0 = nI (c + 1) := by rw [← hD', u2_row (show ¬ 1 = 3 by decide), u2_eq]
  have e2 : ∀ k, ¬ k = 0 → D' 1 k = D 1 k := fun k hk => by rw [← hD', u2_row (show ¬ 1 = 3 by decide), u2_ne (by omega)]
  obtain ⟨ok1, ok2, ok3⟩ := okP_add C.1 (Or.inl ⟨rfl, h12⟩) e1 e2
  have sS : ∀ j, ¬ j = 8 + c → ¬ j = 0 → S' j = S j := fun j z0 z => by rw [← hS', upS_ne (by omega), upS_ne (by omega)]
  have C' : dc p D' S' := dc_add C (Or.inl ⟨rfl, h12⟩) e1 e2 (by rw [← hS', upS_eq]) (fun k hk z => sS k (by omega) (by omega))
  have sN : ∀ j, ¬ j = 0 * 12 + c → N' 2 j = N 2 j := fun j z => by rw [← hN, u2l_ne (by omega)]
  have sM : ∀ j, ¬ j = 0 + c → M' j = M j := fun j z => by rw [← hM, uM_ne z]
  refine ⟨C', ?_, D1.of bd.2.1 (ok3 1 (by decide)) (by rw [ok2]; omega) (row 4 (by decide) (by decide)) (fun j a b => sN j (by omega)) (fun j a b => sS j (by omega) (by omega)) (fun j a b => sM j (by omega)), D2.of bd.2.2.1 (ok3 2 (by decide)) (by rw [ok2]; omega) (by rw [ok3 1 (by decide)]; exact Nat.le_refl _) (row 5 (by decide) (by decide)) (row 6 (by decide) (by decide)) (row 7 (by decide) (by decide)) (row 8 (by decide) (by decide)) (fun j a b => sS j (by omega) (by omega)), D3.of bd.2.2.2.1 (ok3 3 (by decide)) (by rw [ok2]; omega) (row 9 (by decide) (by decide)) (row 10 (by decide) (by decide)) (fun j a b => sN j (by omega)) (fun j a b => sS j (by omega) (by omega)) (fun j a b => sM j (by omega)), D4.of bd.2.2.2.2.1 (ok3 4 (by decide)) (by rw [ok2]; omega) (by rw [ok3 1 (by decide)]; exact Nat.le_refl _) (by rw [ok3 3 (by decide)]; exact Nat.le_refl _) (fun j a b => row j (by omega) (by omega)) (fun j a b => sN j (by omega)) (fun j a b => sS j (by omega) (by omega)) (fun j a b => sM j (by omega)), D6.of bd.2.2.2.2.2 (ok3 6 (by decide)) (by rw [ok2]; omega) (row 19 (by decide) (by decide)) (row 20 (by decide) (by decide)) (fun j a b => sN j (by omega)) (fun j a b => sS j (by omega) (by omega)) (fun j a b => sM j (by omega))⟩
  intro k hk
  rw [ok2] at hk
  by_cases e : k = c
  · subst e
    have v3 : D' 3 k = (nI l) := by rw [← hD', u2_eq]
    have s8 : S' (8 + k) = (nI l) := by rw [← hS', upS_ne (by omega), upS_eq]
    have n1 : N' 2 (0 * 12 + k) = c5 w := by rw [← hN, u2l_eq]
    have m1 : M' (0 + k) = c8 w := by rw [← hM, uM_eq]
    rw [v3, s8, n1, m1]
    exact ⟨⟨l, rfl, l1, l2⟩, rfl, wr_of hw⟩
  · obtain ⟨a, b, d⟩ := D0 k (by omega)
    have v3 : D' 3 k = D 3 k := by rw [← hD', u2_ne (by omega), u2_row (show ¬ 3 = 1 by decide)]
    rw [v3, sS _ (by omega) (by omega), sN _ (by omega), sM _ (by omega)]
    exact ⟨a, b, d⟩
theorem DR_points {w : List Nat} (hw : isWd w) {l : Nat} (l1 : l < ct D 0) (h : DR p D N S M) (hc : ct D 1 = c) (h12 : c < 6) : DR p (u2 (u2 D 1 1 (nI (c + 1))) 4 c (nI l)) (u2l N 2 (1 * 12 + c) (c5 w)) (upS (upS (S) (20 + c) (nI l)) 1 (nI (c + 1))) (uM M (12 + c) (c8 w)) := by
  obtain ⟨C, D0, D1, D2, D3, D4, D6⟩ := h
  have bd := C.1.bd
  generalize hD' : u2 (u2 D 1 1 (nI (c + 1))) 4 c (nI l) = D'
  generalize hS' : upS (upS (S) (20 + c) (nI l)) 1 (nI (c + 1)) = S'
  generalize hN : u2l N 2 (1 * 12 + c) (c5 w) = N'
  generalize hM : uM M (12 + c) (c8 w) = M'
  have row : ∀ j, ¬ j = 1 → ¬ j = 4 → D' j = D j := fun j h1 h2 => by rw [← hD', u2_row (by omega), u2_row (by omega)]
  have e1 : D' 1 1 = nI (c + 1) := by rw [← hD', u2_row (show ¬ 1 = 4 by decide), u2_eq]
  have e2 : ∀ k, ¬ k = 1 → D' 1 k = D 1 k := fun k hk => by rw [← hD', u2_row (show ¬ 1 = 4 by decide), u2_ne (by omega)]
  obtain ⟨ok1, ok2, ok3⟩ := okP_add C.1 (Or.inr (Or.inl ⟨rfl, h12⟩)) e1 e2
  have sS : ∀ j, ¬ j = 20 + c → ¬ j = 1 → S' j = S j := fun j z0 z => by rw [← hS', upS_ne (by omega), upS_ne (by omega)]
  have C' : dc p D' S' := dc_add C (Or.inr (Or.inl ⟨rfl, h12⟩)) e1 e2 (by rw [← hS', upS_eq]) (fun k hk z => sS k (by omega) (by omega))
  have sN : ∀ j, ¬ j = 1 * 12 + c → N' 2 j = N 2 j := fun j z => by rw [← hN, u2l_ne (by omega)]
  have sM : ∀ j, ¬ j = 12 + c → M' j = M j := fun j z => by rw [← hM, uM_ne z]
  refine ⟨C', D0.of bd.1 (ok3 0 (by decide)) (row 3 (by decide) (by decide)) (fun j a b => sN j (by omega)) (fun j a b => sS j (by omega) (by omega)) (fun j a => sM j (by omega)), ?_, D2.of bd.2.2.1 (ok3 2 (by decide)) (by rw [ok3 0 (by decide)]; exact Nat.le_refl _) (by rw [ok2]; omega) (row 5 (by decide) (by decide)) (row 6 (by decide) (by decide)) (row 7 (by decide) (by decide)) (row 8 (by decide) (by decide)) (fun j a b => sS j (by omega) (by omega)), D3.of bd.2.2.2.1 (ok3 3 (by decide)) (by rw [ok3 0 (by decide)]; exact Nat.le_refl _) (row 9 (by decide) (by decide)) (row 10 (by decide) (by decide)) (fun j a b => sN j (by omega)) (fun j a b => sS j (by omega) (by omega)) (fun j a b => sM j (by omega)), D4.of bd.2.2.2.2.1 (ok3 4 (by decide)) (by rw [ok3 0 (by decide)]; exact Nat.le_refl _) (by rw [ok2]; omega) (by rw [ok3 3 (by decide)]; exact Nat.le_refl _) (fun j a b => row j (by omega) (by omega)) (fun j a b => sN j (by omega)) (fun j a b => sS j (by omega) (by omega)) (fun j a b => sM j (by omega)), D6.of bd.2.2.2.2.2 (ok3 6 (by decide)) (by rw [ok3 0 (by decide)]; exact Nat.le_refl _) (row 19 (by decide) (by decide)) (row 20 (by decide) (by decide)) (fun j a b => sN j (by omega)) (fun j a b => sS j (by omega) (by omega)) (fun j a b => sM j (by omega))⟩
  intro k hk
  rw [ok2] at hk
  by_cases e : k = c
  · subst e
    have v4 : D' 4 k = (nI l) := by rw [← hD', u2_eq]
    have s20 : S' (20 + k) = (nI l) := by rw [← hS', upS_ne (by omega), upS_eq]
    have n1 : N' 2 (1 * 12 + k) = c5 w := by rw [← hN, u2l_eq]
    have m1 : M' (12 + k) = c8 w := by rw [← hM, uM_eq]
    rw [v4, s20, n1, m1, ok3 0 (by decide)]
    exact ⟨⟨l, rfl, l1⟩, rfl, wr_of hw⟩
  · obtain ⟨a, b, d⟩ := D1 k (by omega)
    have v4 : D' 4 k = D 4 k := by rw [← hD', u2_ne (by omega), u2_row (show ¬ 4 = 1 by decide)]
    rw [v4, sS _ (by omega) (by omega), sN _ (by omega), sM _ (by omega), ok3 0 (by decide)]
    exact ⟨a, b, d⟩
theorem DR_track {a b : Nat} {x y : Int32} (ha : a < ct D 0) (hb : b < ct D 0) (hab : ¬ a = b) (hx : x = -1 ∨ ∃ q, x = nI q ∧ q < ct D 1) (hy : y = 0 ∨ y = 1) (hn : ∀ j, j < ct D 2 → ¬ (D 5 j = nI a ∧ D 6 j = nI b ∨ D 5 j = nI b ∧ D 6 j = nI a)) (h : DR p D N S M) (hc : ct D 2 = c) (h12 : c < 16) : DR p (u2 (u2 (u2 (u2 (u2 D 1 2 (nI (c + 1))) 5 c (nI a)) 6 c (nI b)) 7 c x) 8 c y) (N) (upS (upS (upS (upS (upS (S) (26 + c) (nI a)) (42 + c) (nI b)) (58 + c) (x + 1)) (74 + c) y) 2 (nI (c + 1))) (M) := by
  obtain ⟨C, D0, D1, D2, D3, D4, D6⟩ := h
  have bd := C.1.bd
  generalize hD' : u2 (u2 (u2 (u2 (u2 D 1 2 (nI (c + 1))) 5 c (nI a)) 6 c (nI b)) 7 c x) 8 c y = D'
  generalize hS' : upS (upS (upS (upS (upS (S) (26 + c) (nI a)) (42 + c) (nI b)) (58 + c) (x + 1)) (74 + c) y) 2 (nI (c + 1)) = S'
  have row : ∀ j, ¬ j = 1 → ¬ j = 5 → ¬ j = 6 → ¬ j = 7 → ¬ j = 8 → D' j = D j := fun j h1 h2 h3 h4 h5 => by rw [← hD', u2_row (by omega), u2_row (by omega), u2_row (by omega), u2_row (by omega), u2_row (by omega)]
  have e1 : D' 1 2 = nI (c + 1) := by rw [← hD', u2_row (show ¬ 1 = 8 by decide), u2_row (show ¬ 1 = 7 by decide), u2_row (show ¬ 1 = 6 by decide), u2_row (show ¬ 1 = 5 by decide), u2_eq]
  have e2 : ∀ k, ¬ k = 2 → D' 1 k = D 1 k := fun k hk => by rw [← hD', u2_row (show ¬ 1 = 8 by decide), u2_row (show ¬ 1 = 7 by decide), u2_row (show ¬ 1 = 6 by decide), u2_row (show ¬ 1 = 5 by decide), u2_ne (by omega)]
  obtain ⟨ok1, ok2, ok3⟩ := okP_add C.1 (Or.inr (Or.inr (Or.inl ⟨rfl, h12⟩))) e1 e2
  have sS : ∀ j, ¬ j = 26 + c → ¬ j = 42 + c → ¬ j = 58 + c → ¬ j = 74 + c → ¬ j = 2 → S' j = S j := fun j z0 z1 z2 z3 z => by rw [← hS', upS_ne (by omega), upS_ne (by omega), upS_ne (by omega), upS_ne (by omega), upS_ne (by omega)]
  have C' : dc p D' S' := dc_add C (Or.inr (Or.inr (Or.inl ⟨rfl, h12⟩))) e1 e2 (by rw [← hS', upS_eq]) (fun k hk z => sS k (by omega) (by omega) (by omega) (by omega) (by omega))
  refine ⟨C', D0.of bd.1 (ok3 0 (by decide)) (row 3 (by decide) (by decide) (by decide) (by decide) (by decide)) (fun _ _ _ => rfl) (fun j a b => sS j (by omega) (by omega) (by omega) (by omega) (by omega)) (fun _ _ => rfl), D1.of bd.2.1 (ok3 1 (by decide)) (by rw [ok3 0 (by decide)]; exact Nat.le_refl _) (row 4 (by decide) (by decide) (by decide) (by decide) (by decide)) (fun _ _ _ => rfl) (fun j a b => sS j (by omega) (by omega) (by omega) (by omega) (by omega)) (fun _ _ _ => rfl), ?_, D3.of bd.2.2.2.1 (ok3 3 (by decide)) (by rw [ok3 0 (by decide)]; exact Nat.le_refl _) (row 9 (by decide) (by decide) (by decide) (by decide) (by decide)) (row 10 (by decide) (by decide) (by decide) (by decide) (by decide)) (fun _ _ _ => rfl) (fun j a b => sS j (by omega) (by omega) (by omega) (by omega) (by omega)) (fun _ _ _ => rfl), D4.of bd.2.2.2.2.1 (ok3 4 (by decide)) (by rw [ok3 0 (by decide)]; exact Nat.le_refl _) (by rw [ok3 1 (by decide)]; exact Nat.le_refl _) (by rw [ok3 3 (by decide)]; exact Nat.le_refl _) (fun j a b => row j (by omega) (by omega) (by omega) (by omega) (by omega)) (fun _ _ _ => rfl) (fun j a b => sS j (by omega) (by omega) (by omega) (by omega) (by omega)) (fun _ _ _ => rfl), D6.of bd.2.2.2.2.2 (ok3 6 (by decide)) (by rw [ok3 0 (by decide)]; exact Nat.le_refl _) (row 19 (by decide) (by decide) (by decide) (by decide) (by decide)) (row 20 (by decide) (by decide) (by decide) (by decide) (by decide)) (fun _ _ _ => rfl) (fun j a b => sS j (by omega) (by omega) (by omega) (by omega) (by omega)) (fun _ _ _ => rfl)⟩
  intro k hk
  have old : ∀ k, k < c → D' 5 k = D 5 k ∧ D' 6 k = D 6 k ∧ D' 7 k = D 7 k ∧ D' 8 k = D 8 k := fun k e => by
    have v5 : D' 5 k = D 5 k := by rw [← hD', u2_row (show ¬ 5 = 8 by decide), u2_row (show ¬ 5 = 7 by decide), u2_row (show ¬ 5 = 6 by decide), u2_ne (by omega), u2_row (show ¬ 5 = 1 by decide)]
    have v6 : D' 6 k = D 6 k := by rw [← hD', u2_row (show ¬ 6 = 8 by decide), u2_row (show ¬ 6 = 7 by decide), u2_ne (by omega), u2_row (show ¬ 6 = 5 by decide), u2_row (show ¬ 6 = 1 by decide)]
    have v7 : D' 7 k = D 7 k := by rw [← hD', u2_row (show ¬ 7 = 8 by decide), u2_ne (by omega), u2_row (show ¬ 7 = 6 by decide), u2_row (show ¬ 7 = 5 by decide), u2_row (show ¬ 7 = 1 by decide)]
    have v8 : D' 8 k = D 8 k := by rw [← hD', u2_ne (by omega), u2_row (show ¬ 8 = 7 by decide), u2_row (show ¬ 8 = 6 by decide), u2_row (show ¬ 8 = 5 by decide), u2_row (show ¬ 8 = 1 by decide)]
    exact ⟨v5, v6, v7, v8⟩
  have new : ∀ k, k = c → D' 5 k = nI a ∧ D' 6 k = nI b ∧ D' 7 k = x ∧ D' 8 k = y := fun k e => by
    subst e
    have v5 : D' 5 k = (nI a) := by rw [← hD', u2_row (show ¬ 5 = 8 by decide), u2_row (show ¬ 5 = 7 by decide), u2_row (show ¬ 5 = 6 by decide), u2_eq]
    have v6 : D' 6 k = (nI b) := by rw [← hD', u2_row (show ¬ 6 = 8 by decide), u2_row (show ¬ 6 = 7 by decide), u2_eq]
    have v7 : D' 7 k = x := by rw [← hD', u2_row (show ¬ 7 = 8 by decide), u2_eq]
    have v8 : D' 8 k = y := by rw [← hD', u2_eq]
    exact ⟨v5, v6, v7, v8⟩
  rw [ok2] at hk
  by_cases e : k = c
  · obtain ⟨v5, v6, v7, v8⟩ := new k e
    subst e
    have s26 : S' (26 + k) = (nI a) := by rw [← hS', upS_ne (by omega), upS_ne (by omega), upS_ne (by omega), upS_ne (by omega), upS_eq]
    have s42 : S' (42 + k) = (nI b) := by rw [← hS', upS_ne (by omega), upS_ne (by omega), upS_ne (by omega), upS_eq]
    have s58 : S' (58 + k) = (x + 1) := by rw [← hS', upS_ne (by omega), upS_ne (by omega), upS_eq]
    have s74 : S' (74 + k) = y := by rw [← hS', upS_ne (by omega), upS_eq]
    rw [v5, v6, v7, v8, s26, s42, s58, s74, ok3 0 (by decide), ok3 1 (by decide), ok2]
    refine ⟨⟨⟨a, b, rfl, ha, rfl, hb, hab⟩, hx, hy⟩, ⟨rfl, rfl, rfl, rfl⟩, fun j hj z => ?_⟩
    by_cases q : j = k
    · exact q
    · obtain ⟨u5, u6, -, -⟩ := old j (by omega)
      rw [u5, u6] at z
      exact absurd z (hn j (by omega))
  · obtain ⟨v5, v6, v7, v8⟩ := old k (by omega)
    obtain ⟨h1, h2, h3⟩ := D2 k (by omega)
    rw [v5, v6, v7, v8, sS _ (by omega) (by omega) (by omega) (by omega) (by omega), sS _ (by omega) (by omega) (by omega) (by omega) (by omega), sS _ (by omega) (by omega) (by omega) (by omega) (by omega), sS _ (by omega) (by omega) (by omega) (by omega) (by omega), ok3 0 (by decide), ok3 1 (by decide), ok2]
    refine ⟨h1, h2, fun j hj z => ?_⟩
    by_cases q : j = c
    · obtain ⟨u5, u6, -, -⟩ := new j q
      rw [u5, u6] at z
      refine absurd ?_ (hn k (by omega))
      rcases z with ⟨z1, z2⟩ | ⟨z1, z2⟩
      · exact Or.inl ⟨z1.symm, z2.symm⟩
      · exact Or.inr ⟨z2.symm, z1.symm⟩
    · obtain ⟨u5, u6, -, -⟩ := old j (by omega)
      rw [u5, u6] at z
      exact h3 j (by omega) z
theorem DR_signal {w : List Nat} (hw : isWd w) {a : Nat} {y : Int32} (ha : a < ct D 0) (hy : y = 0 ∨ y = 1) (hn : ∀ j, j < ct D 3 → ¬ (D 9 j = nI a ∧ D 10 j = y)) (h : DR p D N S M) (hc : ct D 3 = c) (h12 : c < 8) : DR p (u2 (u2 (u2 D 1 3 (nI (c + 1))) 9 c (nI a)) 10 c y) (u2l N 2 (3 * 12 + c) (c5 w)) (upS (upS (upS (S) (90 + c) (nI a)) (98 + c) y) 3 (nI (c + 1))) (uM M (18 + c) (c8 w)) := by
  obtain ⟨C, D0, D1, D2, D3, D4, D6⟩ := h
  have bd := C.1.bd
  generalize hD' : u2 (u2 (u2 D 1 3 (nI (c + 1))) 9 c (nI a)) 10 c y = D'
  generalize hS' : upS (upS (upS (S) (90 + c) (nI a)) (98 + c) y) 3 (nI (c + 1)) = S'
  generalize hN : u2l N 2 (3 * 12 + c) (c5 w) = N'
  generalize hM : uM M (18 + c) (c8 w) = M'
  have row : ∀ j, ¬ j = 1 → ¬ j = 9 → ¬ j = 10 → D' j = D j := fun j h1 h2 h3 => by rw [← hD', u2_row (by omega), u2_row (by omega), u2_row (by omega)]
  have e1 : D' 1 3 = nI (c + 1) := by rw [← hD', u2_row (show ¬ 1 = 10 by decide), u2_row (show ¬ 1 = 9 by decide), u2_eq]
  have e2 : ∀ k, ¬ k = 3 → D' 1 k = D 1 k := fun k hk => by rw [← hD', u2_row (show ¬ 1 = 10 by decide), u2_row (show ¬ 1 = 9 by decide), u2_ne (by omega)]
  obtain ⟨ok1, ok2, ok3⟩ := okP_add C.1 (Or.inr (Or.inr (Or.inr (Or.inl ⟨rfl, h12⟩)))) e1 e2
  have sS : ∀ j, ¬ j = 90 + c → ¬ j = 98 + c → ¬ j = 3 → S' j = S j := fun j z0 z1 z => by rw [← hS', upS_ne (by omega), upS_ne (by omega), upS_ne (by omega)]
  have C' : dc p D' S' := dc_add C (Or.inr (Or.inr (Or.inr (Or.inl ⟨rfl, h12⟩)))) e1 e2 (by rw [← hS', upS_eq]) (fun k hk z => sS k (by omega) (by omega) (by omega))
  have sN : ∀ j, ¬ j = 3 * 12 + c → N' 2 j = N 2 j := fun j z => by rw [← hN, u2l_ne (by omega)]
  have sM : ∀ j, ¬ j = 18 + c → M' j = M j := fun j z => by rw [← hM, uM_ne z]
  refine ⟨C', D0.of bd.1 (ok3 0 (by decide)) (row 3 (by decide) (by decide) (by decide)) (fun j a b => sN j (by omega)) (fun j a b => sS j (by omega) (by omega) (by omega)) (fun j a => sM j (by omega)), D1.of bd.2.1 (ok3 1 (by decide)) (by rw [ok3 0 (by decide)]; exact Nat.le_refl _) (row 4 (by decide) (by decide) (by decide)) (fun j a b => sN j (by omega)) (fun j a b => sS j (by omega) (by omega) (by omega)) (fun j a b => sM j (by omega)), D2.of bd.2.2.1 (ok3 2 (by decide)) (by rw [ok3 0 (by decide)]; exact Nat.le_refl _) (by rw [ok3 1 (by decide)]; exact Nat.le_refl _) (row 5 (by decide) (by decide) (by decide)) (row 6 (by decide) (by decide) (by decide)) (row 7 (by decide) (by decide) (by decide)) (row 8 (by decide) (by decide) (by decide)) (fun j a b => sS j (by omega) (by omega) (by omega)), ?_, D4.of bd.2.2.2.2.1 (ok3 4 (by decide)) (by rw [ok3 0 (by decide)]; exact Nat.le_refl _) (by rw [ok3 1 (by decide)]; exact Nat.le_refl _) (by rw [ok2]; omega) (fun j a b => row j (by omega) (by omega) (by omega)) (fun j a b => sN j (by omega)) (fun j a b => sS j (by omega) (by omega) (by omega)) (fun j a b => sM j (by omega)), D6.of bd.2.2.2.2.2 (ok3 6 (by decide)) (by rw [ok3 0 (by decide)]; exact Nat.le_refl _) (row 19 (by decide) (by decide) (by decide)) (row 20 (by decide) (by decide) (by decide)) (fun j a b => sN j (by omega)) (fun j a b => sS j (by omega) (by omega) (by omega)) (fun j a b => sM j (by omega))⟩
  intro k hk
  have old : ∀ k, k < c → D' 9 k = D 9 k ∧ D' 10 k = D 10 k := fun k e => by
    have v9 : D' 9 k = D 9 k := by rw [← hD', u2_row (show ¬ 9 = 10 by decide), u2_ne (by omega), u2_row (show ¬ 9 = 1 by decide)]
    have v10 : D' 10 k = D 10 k := by rw [← hD', u2_ne (by omega), u2_row (show ¬ 10 = 9 by decide), u2_row (show ¬ 10 = 1 by decide)]
    exact ⟨v9, v10⟩
  have new : ∀ k, k = c → D' 9 k = nI a ∧ D' 10 k = y := fun k e => by
    subst e
    have v9 : D' 9 k = (nI a) := by rw [← hD', u2_row (show ¬ 9 = 10 by decide), u2_eq]
    have v10 : D' 10 k = y := by rw [← hD', u2_eq]
    exact ⟨v9, v10⟩
  rw [ok2] at hk
  by_cases e : k = c
  · obtain ⟨v9, v10⟩ := new k e
    subst e
    have s90 : S' (90 + k) = (nI a) := by rw [← hS', upS_ne (by omega), upS_ne (by omega), upS_eq]
    have s98 : S' (98 + k) = y := by rw [← hS', upS_ne (by omega), upS_eq]
    have n1 : N' 2 (3 * 12 + k) = c5 w := by rw [← hN, u2l_eq]
    have m1 : M' (18 + k) = c8 w := by rw [← hM, uM_eq]
    rw [v9, v10, s90, s98, ok3 0 (by decide), ok2, n1, m1]
    refine ⟨⟨⟨a, rfl, ha⟩, hy⟩, ⟨rfl, rfl⟩, fun j hj z1 z2 => ?_, wr_of hw⟩
    by_cases q : j = k
    · exact q
    · obtain ⟨u9, u10⟩ := old j (by omega)
      rw [u9] at z1
      rw [u10] at z2
      exact absurd ⟨z1, z2⟩ (hn j (by omega))
  · obtain ⟨v9, v10⟩ := old k (by omega)
    obtain ⟨h1, h2, h3, h4⟩ := D3 k (by omega)
    rw [v9, v10, sS _ (by omega) (by omega) (by omega), sS _ (by omega) (by omega) (by omega), ok3 0 (by decide), ok2, sN _ (by omega), sM _ (by omega)]
    refine ⟨h1, h2, fun j hj z1 z2 => ?_, h4⟩
    by_cases q : j = c
    · obtain ⟨u9, u10⟩ := new j q
      rw [u9] at z1
      rw [u10] at z2
      exact absurd ⟨z1.symm, z2.symm⟩ (hn k (by omega))
    · obtain ⟨u9, u10⟩ := old j (by omega)
      rw [u9] at z1
      rw [u10] at z2
      exact h3 j (by omega) z1 z2
theorem DR_train {w : List Nat} (hw : isWd w) {a : Nat} {y : Int32} (ha : a < ct D 0) (hy : y = 0 ∨ y = 1) (h : DR p D N S M) (hc : ct D 6 = c) (h12 : c < 5) : DR p (u2 (u2 (u2 D 1 6 (nI (c + 1))) 19 c (nI a)) 20 c y) (u2l N 2 (6 * 12 + c) (c5 w)) (upS (upS (upS (S) (216 + c) (nI a)) (221 + c) y) 6 (nI (c + 1))) (uM M (36 + c) (c8 w)) := by
  obtain ⟨C, D0, D1, D2, D3, D4, D6⟩ := h
  have bd := C.1.bd
  generalize hD' : u2 (u2 (u2 D 1 6 (nI (c + 1))) 19 c (nI a)) 20 c y = D'
  generalize hS' : upS (upS (upS (S) (216 + c) (nI a)) (221 + c) y) 6 (nI (c + 1)) = S'
  generalize hN : u2l N 2 (6 * 12 + c) (c5 w) = N'
  generalize hM : uM M (36 + c) (c8 w) = M'
  have row : ∀ j, ¬ j = 1 → ¬ j = 19 → ¬ j = 20 → D' j = D j := fun j h1 h2 h3 => by rw [← hD', u2_row (by omega), u2_row (by omega), u2_row (by omega)]
  have e1 : D' 1 6 = nI (c + 1) := by rw [← hD', u2_row (show ¬ 1 = 20 by decide), u2_row (show ¬ 1 = 19 by decide), u2_eq]
  have e2 : ∀ k, ¬ k = 6 → D' 1 k = D 1 k := fun k hk => by rw [← hD', u2_row (show ¬ 1 = 20 by decide), u2_row (show ¬ 1 = 19 by decide), u2_ne (by omega)]
  obtain ⟨ok1, ok2, ok3⟩ := okP_add C.1 (Or.inr (Or.inr (Or.inr (Or.inr (Or.inr ⟨rfl, h12⟩))))) e1 e2
  have sS : ∀ j, ¬ j = 216 + c → ¬ j = 221 + c → ¬ j = 6 → S' j = S j := fun j z0 z1 z => by rw [← hS', upS_ne (by omega), upS_ne (by omega), upS_ne (by omega)]
  have C' : dc p D' S' := dc_add C (Or.inr (Or.inr (Or.inr (Or.inr (Or.inr ⟨rfl, h12⟩))))) e1 e2 (by rw [← hS', upS_eq]) (fun k hk z => sS k (by omega) (by omega) (by omega))
  have sN : ∀ j, ¬ j = 6 * 12 + c → N' 2 j = N 2 j := fun j z => by rw [← hN, u2l_ne (by omega)]
  have sM : ∀ j, ¬ j = 36 + c → M' j = M j := fun j z => by rw [← hM, uM_ne z]
  refine ⟨C', D0.of bd.1 (ok3 0 (by decide)) (row 3 (by decide) (by decide) (by decide)) (fun j a b => sN j (by omega)) (fun j a b => sS j (by omega) (by omega) (by omega)) (fun j a => sM j (by omega)), D1.of bd.2.1 (ok3 1 (by decide)) (by rw [ok3 0 (by decide)]; exact Nat.le_refl _) (row 4 (by decide) (by decide) (by decide)) (fun j a b => sN j (by omega)) (fun j a b => sS j (by omega) (by omega) (by omega)) (fun j a b => sM j (by omega)), D2.of bd.2.2.1 (ok3 2 (by decide)) (by rw [ok3 0 (by decide)]; exact Nat.le_refl _) (by rw [ok3 1 (by decide)]; exact Nat.le_refl _) (row 5 (by decide) (by decide) (by decide)) (row 6 (by decide) (by decide) (by decide)) (row 7 (by decide) (by decide) (by decide)) (row 8 (by decide) (by decide) (by decide)) (fun j a b => sS j (by omega) (by omega) (by omega)), D3.of bd.2.2.2.1 (ok3 3 (by decide)) (by rw [ok3 0 (by decide)]; exact Nat.le_refl _) (row 9 (by decide) (by decide) (by decide)) (row 10 (by decide) (by decide) (by decide)) (fun j a b => sN j (by omega)) (fun j a b => sS j (by omega) (by omega) (by omega)) (fun j a b => sM j (by omega)), D4.of bd.2.2.2.2.1 (ok3 4 (by decide)) (by rw [ok3 0 (by decide)]; exact Nat.le_refl _) (by rw [ok3 1 (by decide)]; exact Nat.le_refl _) (by rw [ok3 3 (by decide)]; exact Nat.le_refl _) (fun j a b => row j (by omega) (by omega) (by omega)) (fun j a b => sN j (by omega)) (fun j a b => sS j (by omega) (by omega) (by omega)) (fun j a b => sM j (by omega)), ?_⟩
  intro k hk
  rw [ok2] at hk
  by_cases e : k = c
  · subst e
    have v19 : D' 19 k = (nI a) := by rw [← hD', u2_row (show ¬ 19 = 20 by decide), u2_eq]
    have v20 : D' 20 k = y := by rw [← hD', u2_eq]
    have s216 : S' (216 + k) = (nI a) := by rw [← hS', upS_ne (by omega), upS_ne (by omega), upS_eq]
    have s221 : S' (221 + k) = y := by rw [← hS', upS_ne (by omega), upS_eq]
    have n1 : N' 2 (6 * 12 + k) = c5 w := by rw [← hN, u2l_eq]
    have m1 : M' (36 + k) = c8 w := by rw [← hM, uM_eq]
    rw [v19, v20, s216, s221, n1, m1, ok3 0 (by decide)]
    exact ⟨⟨⟨a, rfl, ha⟩, hy⟩, ⟨rfl, rfl⟩, wr_of hw⟩
  · obtain ⟨h1, h2, h3⟩ := D6 k (by omega)
    have v19 : D' 19 k = D 19 k := by rw [← hD', u2_row (show ¬ 19 = 20 by decide), u2_ne (by omega), u2_row (show ¬ 19 = 1 by decide)]
    have v20 : D' 20 k = D 20 k := by rw [← hD', u2_ne (by omega), u2_row (show ¬ 20 = 19 by decide), u2_row (show ¬ 20 = 1 by decide)]
    rw [v19, v20, sS _ (by omega) (by omega) (by omega), sS _ (by omega) (by omega) (by omega), sN _ (by omega), sM _ (by omega), ok3 0 (by decide)]
    exact ⟨h1, h2, h3⟩
theorem DR_route {w : List Nat} (hw : isWd w) {a : Nat} (ha : a < ct D 3) (h : DR p D N S M) (hc : ct D 4 = c) (h12 : c < 10) : DR p (u2 (u2 (u2 (u2 (u2 (u2 (u2 D 1 4 (nI (c + 1))) 11 c (nI a)) 12 c 0) 14 c 0) 15 c 0) 16 c 0) 17 c 0) (u2l N 2 (4 * 12 + c) (c5 w)) (upS (upS (S) (106 + c) (nI a)) 4 (nI (c + 1))) (uM M (26 + c) (c8 w)) := by
  obtain ⟨C, D0, D1, D2, D3, D4, D6⟩ := h
  have bd := C.1.bd
  generalize hD' : u2 (u2 (u2 (u2 (u2 (u2 (u2 D 1 4 (nI (c + 1))) 11 c (nI a)) 12 c 0) 14 c 0) 15 c 0) 16 c 0) 17 c 0 = D'
  generalize hS' : upS (upS (S) (106 + c) (nI a)) 4 (nI (c + 1)) = S'
  generalize hN : u2l N 2 (4 * 12 + c) (c5 w) = N'
  generalize hM : uM M (26 + c) (c8 w) = M'
  have row : ∀ j, ¬ j = 1 → ¬ j = 11 → ¬ j = 12 → ¬ j = 14 → ¬ j = 15 → ¬ j = 16 → ¬ j = 17 → D' j = D j := fun j h1 h2 h3 h4 h5 h6 h7 => by rw [← hD', u2_row (by omega), u2_row (by omega), u2_row (by omega), u2_row (by omega), u2_row (by omega), u2_row (by omega), u2_row (by omega)]
  have e1 : D' 1 4 = nI (c + 1) := by rw [← hD', u2_row (show ¬ 1 = 17 by decide), u2_row (show ¬ 1 = 16 by decide), u2_row (show ¬ 1 = 15 by decide), u2_row (show ¬ 1 = 14 by decide), u2_row (show ¬ 1 = 12 by decide), u2_row (show ¬ 1 = 11 by decide), u2_eq]
  have e2 : ∀ k, ¬ k = 4 → D' 1 k = D 1 k := fun k hk => by rw [← hD', u2_row (show ¬ 1 = 17 by decide), u2_row (show ¬ 1 = 16 by decide), u2_row (show ¬ 1 = 15 by decide), u2_row (show ¬ 1 = 14 by decide), u2_row (show ¬ 1 = 12 by decide), u2_row (show ¬ 1 = 11 by decide), u2_ne (by omega)]
  obtain ⟨ok1, ok2, ok3⟩ := okP_add C.1 (Or.inr (Or.inr (Or.inr (Or.inr (Or.inl ⟨rfl, h12⟩))))) e1 e2
  have sS : ∀ j, ¬ j = 106 + c → ¬ j = 4 → S' j = S j := fun j z0 z => by rw [← hS', upS_ne (by omega), upS_ne (by omega)]
  have C' : dc p D' S' := dc_add C (Or.inr (Or.inr (Or.inr (Or.inr (Or.inl ⟨rfl, h12⟩))))) e1 e2 (by rw [← hS', upS_eq]) (fun k hk z => sS k (by omega) (by omega))
  have sN : ∀ j, ¬ j = 4 * 12 + c → N' 2 j = N 2 j := fun j z => by rw [← hN, u2l_ne (by omega)]
  have sM : ∀ j, ¬ j = 26 + c → M' j = M j := fun j z => by rw [← hM, uM_ne z]
  refine ⟨C', D0.of bd.1 (ok3 0 (by decide)) (row 3 (by decide) (by decide) (by decide) (by decide) (by decide) (by decide) (by decide)) (fun j a b => sN j (by omega)) (fun j a b => sS j (by omega) (by omega)) (fun j a => sM j (by omega)), D1.of bd.2.1 (ok3 1 (by decide)) (by rw [ok3 0 (by decide)]; exact Nat.le_refl _) (row 4 (by decide) (by decide) (by decide) (by decide) (by decide) (by decide) (by decide)) (fun j a b => sN j (by omega)) (fun j a b => sS j (by omega) (by omega)) (fun j a b => sM j (by omega)), D2.of bd.2.2.1 (ok3 2 (by decide)) (by rw [ok3 0 (by decide)]; exact Nat.le_refl _) (by rw [ok3 1 (by decide)]; exact Nat.le_refl _) (row 5 (by decide) (by decide) (by decide) (by decide) (by decide) (by decide) (by decide)) (row 6 (by decide) (by decide) (by decide) (by decide) (by decide) (by decide) (by decide)) (row 7 (by decide) (by decide) (by decide) (by decide) (by decide) (by decide) (by decide)) (row 8 (by decide) (by decide) (by decide) (by decide) (by decide) (by decide) (by decide)) (fun j a b => sS j (by omega) (by omega)), D3.of bd.2.2.2.1 (ok3 3 (by decide)) (by rw [ok3 0 (by decide)]; exact Nat.le_refl _) (row 9 (by decide) (by decide) (by decide) (by decide) (by decide) (by decide) (by decide)) (row 10 (by decide) (by decide) (by decide) (by decide) (by decide) (by decide) (by decide)) (fun j a b => sN j (by omega)) (fun j a b => sS j (by omega) (by omega)) (fun j a b => sM j (by omega)), ?_, D6.of bd.2.2.2.2.2 (ok3 6 (by decide)) (by rw [ok3 0 (by decide)]; exact Nat.le_refl _) (row 19 (by decide) (by decide) (by decide) (by decide) (by decide) (by decide) (by decide)) (row 20 (by decide) (by decide) (by decide) (by decide) (by decide) (by decide) (by decide)) (fun j a b => sN j (by omega)) (fun j a b => sS j (by omega) (by omega)) (fun j a b => sM j (by omega))⟩
  have old : ∀ k, k < c → D' 11 k = D 11 k ∧ D' 12 k = D 12 k ∧ D' 14 k = D 14 k ∧ D' 15 k = D 15 k ∧ D' 16 k = D 16 k ∧ D' 17 k = D 17 k := fun k e => by
    have v11 : D' 11 k = D 11 k := by rw [← hD', u2_row (show ¬ 11 = 17 by decide), u2_row (show ¬ 11 = 16 by decide), u2_row (show ¬ 11 = 15 by decide), u2_row (show ¬ 11 = 14 by decide), u2_row (show ¬ 11 = 12 by decide), u2_ne (by omega), u2_row (show ¬ 11 = 1 by decide)]
    have v12 : D' 12 k = D 12 k := by rw [← hD', u2_row (show ¬ 12 = 17 by decide), u2_row (show ¬ 12 = 16 by decide), u2_row (show ¬ 12 = 15 by decide), u2_row (show ¬ 12 = 14 by decide), u2_ne (by omega), u2_row (show ¬ 12 = 11 by decide), u2_row (show ¬ 12 = 1 by decide)]
    have v14 : D' 14 k = D 14 k := by rw [← hD', u2_row (show ¬ 14 = 17 by decide), u2_row (show ¬ 14 = 16 by decide), u2_row (show ¬ 14 = 15 by decide), u2_ne (by omega), u2_row (show ¬ 14 = 12 by decide), u2_row (show ¬ 14 = 11 by decide), u2_row (show ¬ 14 = 1 by decide)]
    have v15 : D' 15 k = D 15 k := by rw [← hD', u2_row (show ¬ 15 = 17 by decide), u2_row (show ¬ 15 = 16 by decide), u2_ne (by omega), u2_row (show ¬ 15 = 14 by decide), u2_row (show ¬ 15 = 12 by decide), u2_row (show ¬ 15 = 11 by decide), u2_row (show ¬ 15 = 1 by decide)]
    have v16 : D' 16 k = D 16 k := by rw [← hD', u2_row (show ¬ 16 = 17 by decide), u2_ne (by omega), u2_row (show ¬ 16 = 15 by decide), u2_row (show ¬ 16 = 14 by decide), u2_row (show ¬ 16 = 12 by decide), u2_row (show ¬ 16 = 11 by decide), u2_row (show ¬ 16 = 1 by decide)]
    have v17 : D' 17 k = D 17 k := by rw [← hD', u2_ne (by omega), u2_row (show ¬ 17 = 16 by decide), u2_row (show ¬ 17 = 15 by decide), u2_row (show ¬ 17 = 14 by decide), u2_row (show ¬ 17 = 12 by decide), u2_row (show ¬ 17 = 11 by decide), u2_row (show ¬ 17 = 1 by decide)]
    exact ⟨v11, v12, v14, v15, v16, v17⟩
  have new : ∀ k, k = c → D' 11 k = nI a ∧ D' 12 k = 0 ∧ D' 14 k = 0 ∧ D' 15 k = 0 ∧ D' 16 k = 0 ∧ D' 17 k = 0 := fun k e => by
    subst e
    have v11 : D' 11 k = (nI a) := by rw [← hD', u2_row (show ¬ 11 = 17 by decide), u2_row (show ¬ 11 = 16 by decide), u2_row (show ¬ 11 = 15 by decide), u2_row (show ¬ 11 = 14 by decide), u2_row (show ¬ 11 = 12 by decide), u2_eq]
    have v12 : D' 12 k = 0 := by rw [← hD', u2_row (show ¬ 12 = 17 by decide), u2_row (show ¬ 12 = 16 by decide), u2_row (show ¬ 12 = 15 by decide), u2_row (show ¬ 12 = 14 by decide), u2_eq]
    have v14 : D' 14 k = 0 := by rw [← hD', u2_row (show ¬ 14 = 17 by decide), u2_row (show ¬ 14 = 16 by decide), u2_row (show ¬ 14 = 15 by decide), u2_eq]
    have v15 : D' 15 k = 0 := by rw [← hD', u2_row (show ¬ 15 = 17 by decide), u2_row (show ¬ 15 = 16 by decide), u2_eq]
    have v16 : D' 16 k = 0 := by rw [← hD', u2_row (show ¬ 16 = 17 by decide), u2_eq]
    have v17 : D' 17 k = 0 := by rw [← hD', u2_eq]
    exact ⟨v11, v12, v14, v15, v16, v17⟩
  have r13 : D' 13 = D 13 := row 13 (by decide) (by decide) (by decide) (by decide) (by decide) (by decide) (by decide)
  obtain ⟨h1, h2, h3⟩ := D4
  refine ⟨fun k hk => ?_, fun r q hr hq => ?_, fun k hk hk2 => ?_⟩
  · rw [ok2] at hk
    by_cases e : k = c
    · obtain ⟨v11, v12, v14, v15, v16, v17⟩ := new k e
      subst e
      obtain ⟨z1, z2, z3, z4⟩ := h3 k (by omega) (by omega)
      have s106 : S' (106 + k) = (nI a) := by rw [← hS', upS_ne (by omega), upS_eq]
      have n1 : N' 2 (4 * 12 + k) = c5 w := by rw [← hN, u2l_eq]
      have m1 : M' (26 + k) = c8 w := by rw [← hM, uM_eq]
      refine ⟨⟨⟨a, v11, by rw [ok3 3 (by decide)]; exact ha⟩, ⟨0, v12, by decide, fun i hi => absurd hi (Nat.not_lt_zero i), v14⟩, ?_, ?_, ?_, ?_⟩, ⟨?_, ?_, fun i hi => ?_, ?_, ?_, ?_⟩, ?_⟩
      · rw [v15]; exact fun i _ _ => b_0 i
      · rw [v16]; exact fun i _ _ => b_0 i
      · rw [v17]; exact fun i _ _ => b_0 i
      · rw [v17]; exact b_0 _
      · rw [s106, v11]
      · rw [sS _ (by omega) (by omega), v12]; exact z1
      · rw [v12] at hi; exact absurd hi (Nat.not_lt_zero i)
      · rw [sS _ (by omega) (by omega), v15]; exact z2
      · rw [sS _ (by omega) (by omega), v16]; exact z3
      · rw [sS _ (by omega) (by omega), v17]; exact z4
      · rw [n1, m1]; exact wr_of hw
    · obtain ⟨v11, v12, v14, v15, v16, v17⟩ := old k (by omega)
      obtain ⟨a1, a2, a3⟩ := h1 k (by omega)
      refine ⟨a1.of (by rw [ok2]; omega) (by rw [ok3 0 (by decide)]; exact Nat.le_refl _) (by rw [ok3 1 (by decide)]; exact Nat.le_refl _) (by rw [ok3 3 (by decide)]; exact Nat.le_refl _) v11 v12 (fun i hi => by rw [r13]) v14 v15 v16 v17, a2.of (by omega) a1.m6 v11 v12 (fun i hi => by rw [r13]) v15 v16 v17 (fun j hj => sS j (by omega) (by omega)), ?_⟩
      rw [sN _ (by omega), sM _ (by omega)]
      exact a3
  · rw [ok2] at hr hq
    have lowc : ∀ k, k < c → bt (D 17 k) c = false := fun k hk => by
      obtain ⟨⟨-, -, -, -, l, -⟩, -, -⟩ := h1 k (by omega)
      exact l c (by omega) (by omega)
    by_cases e : r = c
    · obtain ⟨-, -, -, -, -, u⟩ := new r e
      by_cases e2 : q = c
      · rw [e, e2]
      · obtain ⟨-, -, -, -, -, u2'⟩ := old q (by omega)
        rw [u, u2', b_0, e, lowc q (by omega)]
    · obtain ⟨-, -, -, -, -, u⟩ := old r (by omega)
      by_cases e2 : q = c
      · obtain ⟨-, -, -, -, -, u2'⟩ := new q e2
        rw [u, u2', b_0, e2, lowc r (by omega)]
      · obtain ⟨-, -, -, -, -, u2'⟩ := old q (by omega)
        rw [u, u2']
        exact h2 r q (by omega) (by omega)
  · rw [ok2] at hk
    rw [sS _ (by omega) (by omega), sS _ (by omega) (by omega), sS _ (by omega) (by omega), sS _ (by omega) (by omega)]
    exact h3 k (by omega) hk2
end DU
