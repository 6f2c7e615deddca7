/-! over: a route's sections -/
section OV
variable {X Y X1 Y1 X0 Y0 : X_} {n p : Nat} {D : m_V} {N : m_L} {S : Nat → Int32} {M : Nat → Int64} {hx hy lx ly : Int32}
theorem DR_over {r m c : Nat} {x15 x16 : Int32} (hr : r < ct D 4) (hm : D 12 r = nI m) (m6 : m < 6) (hcs : c < ct D 0) (l15 : lowB x15 (ct D 1)) (l16 : lowB x16 (ct D 1)) (h : DR p D N S M) : DR p (u2 (u2 (u2 (u2 (u2 D 15 r x15) 16 r x16) 13 (r * 6 + m) (nI c)) 12 r (nI (m + 1))) 14 r (D 14 r ||| (1 <<< (nI c &&& 31)))) N (upS (upS (upS (upS S (186 + r) x15) (196 + r) x16) (126 + 6 * r + m) (nI c)) (116 + r) (nI (m + 1))) M := by
  obtain ⟨C, D0, D1, D2, D3, D4, D6⟩ := h
  have bd := C.1.bd
  generalize hD' : u2 (u2 (u2 (u2 (u2 D 15 r x15) 16 r x16) 13 (r * 6 + m) (nI c)) 12 r (nI (m + 1))) 14 r (D 14 r ||| (1 <<< (nI c &&& 31))) = D'
  generalize hS' : upS (upS (upS (upS S (186 + r) x15) (196 + r) x16) (126 + 6 * r + m) (nI c)) (116 + r) (nI (m + 1)) = S'
  have row : ∀ j, ¬ j = 12 → ¬ j = 13 → ¬ j = 14 → ¬ j = 15 → ¬ j = 16 → D' j = D j := fun j h1 h2 h3 h4 h5 => by rw [← hD', u2_row h3, u2_row h1, u2_row h2, u2_row h5, u2_row h4]
  have cc : ∀ s, ct D' s = ct D s := fun s => ct_row (row 1 (by decide) (by decide) (by decide) (by decide) (by decide))
  have le : ∀ s, ct D s ≤ ct D' s := fun s => by rw [cc s]; exact Nat.le_refl _
  have sS : ∀ j, ¬ j = 186 + r → ¬ j = 196 + r → ¬ j = 126 + 6 * r + m → ¬ j = 116 + r → S' j = S j := fun j h1 h2 h3 h4 => by rw [← hS', upS_ne h4, upS_ne h3, upS_ne h2, upS_ne h1]
  have v15 : D' 15 r = x15 := by rw [← hD', u2_row (by decide), u2_row (by decide), u2_row (by decide), u2_row (by decide), u2_eq]
  have v16 : D' 16 r = x16 := by rw [← hD', u2_row (by decide), u2_row (by decide), u2_row (by decide), u2_eq]
  have v13 : D' 13 (r * 6 + m) = nI c := by rw [← hD', u2_row (by decide), u2_row (by decide), u2_eq]
  have o13 : ∀ i, ¬ i = r * 6 + m → D' 13 i = D 13 i := fun i hi => by rw [← hD', u2_row (by decide), u2_row (by decide), u2_ne (by omega), u2_row (by decide), u2_row (by decide)]
  have v12 : D' 12 r = nI (m + 1) := by rw [← hD', u2_row (by decide), u2_eq]
  have v14 : D' 14 r = D 14 r ||| (1 <<< (nI c &&& 31)) := by rw [← hD', u2_eq]
  have oth : ∀ q, ¬ q = r → D' 12 q = D 12 q ∧ D' 14 q = D 14 q ∧ D' 15 q = D 15 q ∧ D' 16 q = D 16 q := fun q hq => by
    refine ⟨?_, ?_, ?_, ?_⟩
    · rw [← hD', u2_row (by decide), u2_ne (by omega), u2_row (by decide), u2_row (by decide), u2_row (by decide)]
    · rw [← hD', u2_ne (by omega), u2_row (by decide), u2_row (by decide), u2_row (by decide), u2_row (by decide)]
    · rw [← hD', u2_row (by decide), u2_row (by decide), u2_row (by decide), u2_row (by decide), u2_ne (by omega)]
    · rw [← hD', u2_row (by decide), u2_row (by decide), u2_row (by decide), u2_ne (by omega), u2_row (by decide)]
  have t15 : S' (186 + r) = x15 := by rw [← hS', upS_ne (by omega), upS_ne (by omega), upS_ne (by omega), upS_eq]
  have t16 : S' (196 + r) = x16 := by rw [← hS', upS_ne (by omega), upS_ne (by omega), upS_eq]
  have t13 : S' (126 + 6 * r + m) = nI c := by rw [← hS', upS_ne (by omega), upS_eq]
  have t12 : S' (116 + r) = nI (m + 1) := by rw [← hS', upS_eq]
  have e17 : D' 17 = D 17 := row 17 (by decide) (by decide) (by decide) (by decide) (by decide)
  have e11 : D' 11 = D 11 := row 11 (by decide) (by decide) (by decide) (by decide) (by decide)
  have e1 : D' 1 = D 1 := row 1 (by decide) (by decide) (by decide) (by decide) (by decide)
  have one : ∀ s m, (D 1 s = nI (ct D s) ∧ ct D s ≤ m) → D' 1 s = nI (ct D' s) ∧ ct D' s ≤ m := fun s m hm => by rw [cc s, e1]; exact hm
  obtain ⟨k1, k2, k3, k4⟩ := C
  refine ⟨⟨⟨one 0 12 k1.c0, one 1 6 k1.c1, one 2 16 k1.c2, one 3 8 k1.c3, one 4 10 k1.c4, one 6 5 k1.c6⟩, fun k hk => ?_, by rw [e1]; exact k3, by rw [e1]; exact k4⟩, D0.of bd.1 (cc 0) (row 3 (by decide) (by decide) (by decide) (by decide) (by decide)) (fun _ _ _ => rfl) (fun j _ _ => sS j (by omega) (by omega) (by omega) (by omega)) (fun _ _ => rfl), D1.of bd.2.1 (cc 1) (le 0) (row 4 (by decide) (by decide) (by decide) (by decide) (by decide)) (fun _ _ _ => rfl) (fun j _ _ => sS j (by omega) (by omega) (by omega) (by omega)) (fun _ _ _ => rfl), D2.of bd.2.2.1 (cc 2) (le 0) (le 1) (row 5 (by decide) (by decide) (by decide) (by decide) (by decide)) (row 6 (by decide) (by decide) (by decide) (by decide) (by decide)) (row 7 (by decide) (by decide) (by decide) (by decide) (by decide)) (row 8 (by decide) (by decide) (by decide) (by decide) (by decide)) (fun j _ _ => sS j (by omega) (by omega) (by omega) (by omega)), D3.of bd.2.2.2.1 (cc 3) (le 0) (row 9 (by decide) (by decide) (by decide) (by decide) (by decide)) (row 10 (by decide) (by decide) (by decide) (by decide) (by decide)) (fun _ _ _ => rfl) (fun j _ _ => sS j (by omega) (by omega) (by omega) (by omega)) (fun _ _ _ => rfl), ⟨fun q hq => ?_, fun q q' h1 h2 => ?_, fun q h1 h2 => ?_⟩, D6.of bd.2.2.2.2.2 (cc 6) (le 0) (row 19 (by decide) (by decide) (by decide) (by decide) (by decide)) (row 20 (by decide) (by decide) (by decide) (by decide) (by decide)) (fun _ _ _ => rfl) (fun j _ _ => sS j (by omega) (by omega) (by omega) (by omega)) (fun _ _ _ => rfl)⟩
  · rw [sS k (by omega) (by omega) (by omega) (by omega), e1]; exact k2 k hk
  · rw [cc 4] at hq
    obtain ⟨a4, b4, w4⟩ := D4.1 q hq
    by_cases e : q = r
    · subst e
      obtain ⟨g, ⟨m', q1, q2, q3, q4⟩, -, -, l17, l17'⟩ := a4
      have mm : m' = m := by rw [hm] at q1; exact ((nI_eq (by omega) (by omega)).mp q1).symm
      subst mm
      refine ⟨⟨?_, ⟨m' + 1, v12, by omega, fun k hk => ?_, ?_⟩, ?_, ?_, ?_, ?_⟩, ⟨?_, ?_, fun i hi => ?_, ?_, ?_, ?_⟩, w4⟩
      · rw [e11, cc 3]; exact g
      · by_cases d : k = m'
        · subst d; exact ⟨c, v13, by rw [cc 0]; exact hcs⟩
        · rw [o13 _ (by omega), cc 0]; exact q3 k (by omega)
      · rw [v14, q4]
        show _ = p_secs D' q m' ||| (1 <<< (D' 13 (q * 6 + m') &&& 31))
        rw [v13, secs_row (D' := D') (D := D) (fun k hk => o13 _ (by omega))]
      · rw [v15, cc 1]; exact l15
      · rw [v16, cc 1]; exact l16
      · rw [e17, cc 4]; exact l17
      · rw [e17]; exact l17'
      · rw [sS _ (by omega) (by omega) (by omega) (by omega), e11]; exact b4.1
      · rw [t12, v12]
      · rw [v12, nI_clamp (by omega)] at hi
        by_cases d : i = m'
        · subst d; rw [t13, v13]
        · rw [sS _ (by omega) (by omega) (by omega) (by omega), o13 _ (by omega)]
          exact b4.2.2.1 i (by rw [hm, nI_clamp (by omega)]; omega)
      · rw [t15, v15]
      · rw [t16, v16]
      · rw [sS _ (by omega) (by omega) (by omega) (by omega), e17]; exact b4.2.2.2.2.2
    · obtain ⟨u12, u14, u15, u16⟩ := oth q e
      have u13 : ∀ k, k < 6 → D' 13 (q * 6 + k) = D 13 (q * 6 + k) := fun k hk => o13 _ (by omega)
      exact ⟨a4.of (le 4) (le 0) (le 1) (le 3) (by rw [e11]) u12 u13 u14 u15 u16 (by rw [e17]), b4.of (by omega) a4.m6 (by rw [e11]) u12 u13 u15 u16 (by rw [e17]) (fun j hj => sS j (by omega) (by omega) (by omega) (by omega)), w4⟩
  · rw [cc 4] at h1 h2
    rw [e17]; exact D4.2.1 q q' h1 h2
  · rw [cc 4] at h1
    rw [sS _ (by omega) (by omega) (by omega) (by omega), sS _ (by omega) (by omega) (by omega) (by omega), sS _ (by omega) (by omega) (by omega) (by omega), sS _ (by omega) (by omega) (by omega) (by omega)]
    exact D4.2.2 q h1 h2
/-- the last one of which it holds -/
theorem lo_last (T : Nat → Bool) : ∀ m, ((∀ k, k < m → T k = false) ∧ lo (fun k (a : Int32) => if T k = true then nI k else a) m (-1) = -1) ∨ ∃ k, k < m ∧ T k = true ∧ lo (fun k (a : Int32) => if T k = true then nI k else a) m (-1) = nI k := by
  intro m
  induction m with
  | zero => exact Or.inl ⟨fun k hk => absurd hk (Nat.not_lt_zero k), rfl⟩
  | succ m ih =>
    rw [lo]
    by_cases c : T m = true
    · rw [if_pos c]; exact Or.inr ⟨m, by omega, c, rfl⟩
    · rw [if_neg c]
      rcases ih with ⟨h1, h2⟩ | ⟨k, h1, h2, h3⟩
      · refine Or.inl ⟨fun k hk => ?_, h2⟩
        by_cases e : k = m
        · subst e; exact Bool.eq_false_iff.mpr c
        · exact h1 k (by omega)
      · exact Or.inr ⟨k, by omega, h2, h3⟩
/-- what a route may go over next, in the words of the draft: its last section, the way, the tracks -/
def oT (D : m_V) (y la c : Int32) (k : Nat) : Bool := decide (D 5 k = (if y = 0 then la else c) ∧ D 6 k = (if y = 0 then c else la))
def oH (D : m_V) (r m : Nat) (c : Int32) : Bool := an (fun i => decide (D 13 (r * 6 + i) = c)) m
theorem e_oT {L : Nat} {y : Int32} {la : Nat} {c : Nat} {K : Int32 → RM Int32} (h : MS X0 Y0 n p D N S M hx hy lx ly X Y) (hL : ct D 2 = L) (l16 : L ≤ 16) (h2 : D 1 2 = nI L) (hs : S 2 = D 1 2) (hd : d2 D S) (h18 : Y.1 218 18 = nI c) : (lz2 (fun L139 x12 x13 => (rA 221 226 2 fun v14 => (it (v14 ≤ x13) (K x12) (rA 221 226 (26 + x13) fun v31 => (jo2 (fun w32 w33 => (it (w33 = w32) (rA 221 226 (42 + x13) fun v34 => (it (y = 0) (gI 218 18 fun v35 => (it (v34 = v35) (L139 x13 (x13 + 1)) (L139 x12 (x13 + 1)))) (it (v34 = nI la) (L139 x13 (x13 + 1)) (L139 x12 (x13 + 1))))) (L139 x12 (x13 + 1)))) (fun J173 => (it (y = 0) (J173 (nI la) v31) (gI 218 18 fun v36 => (J173 v36 v31))))))))) FU (-1) 0) Y = K (lo (fun k (a : Int32) => if oT D y (nI la) (nI c) k = true then nI k else a) L (-1)) Y := by
  refine lz2_lo (E := fun a => K a Y) (fun k (a : Int32) => if oT D y (nI la) (nI c) k = true then nI k else a) (by omega) (fun i a Lf hi => ?_) (fun a Lf => ?_)
  · obtain ⟨-, ⟨s5, s6, -, -⟩, -⟩ := hd i (by omega)
    rw [rA_l (by decide) (by decide), h.s, hs, h2, it_f (nI_ge hi (by omega)), ix_la, rA_n (by omega) (by decide), h.s, s5, jo2_e]
    dsimp only
    unfold oT
    by_cases yy : y = 0
    · simp only [if_pos yy]
      rw [it_t yy, it_e, nI_1]
      by_cases c1 : D 5 i = nI la
      · rw [if_pos c1, ix_la, rA_n (by omega) (by decide), h.s, s6, it_t yy, gI_e, h18, it_e]
        by_cases c2 : D 6 i = nI c
        · rw [if_pos c2, if_pos (decide_eq_true ⟨c1, c2⟩)]
        · rw [if_neg c2, if_neg (fun z => c2 (of_decide_eq_true z).2)]
      · rw [if_neg c1, if_neg (fun z => c1 (of_decide_eq_true z).1)]
    · simp only [if_neg yy]
      rw [it_f yy, gI_e, h18, it_e, nI_1]
      by_cases c1 : D 5 i = nI c
      · rw [if_pos c1, ix_la, rA_n (by omega) (by decide), h.s, s6, it_f yy, it_e]
        by_cases c2 : D 6 i = nI la
        · rw [if_pos c2, if_pos (decide_eq_true ⟨c1, c2⟩)]
        · rw [if_neg c2, if_neg (fun z => c2 (of_decide_eq_true z).2)]
      · rw [if_neg c1, if_neg (fun z => c1 (of_decide_eq_true z).1)]
  · rw [rA_l (by decide) (by decide), h.s, hs, h2, it_t (nI_le (Nat.le_refl _) (by omega))]
theorem e_oH {r m c : Nat} {K : RM Int32} (h : MS X0 Y0 n p D N S M hx hy lx ly X Y) (hr : r < 10) (m6 : m ≤ 6) (hd : ∀ k, k < m → S (126 + 6 * r + k) = D 13 (r * 6 + k)) (h18 : Y.1 218 18 = nI c) (z : Bool) : (lz2 (fun L236 x16 x17 => (it (nI m ≤ x17) (it (x16 = 0) K (ca (fX12_bad 3) fun v27 => (rz v27))) (it (x16 = 0) (rA 221 226 ((126 + (6 * nI r)) + x17) fun v28 => (gI 218 18 fun v29 => (it (v28 = v29) (L236 1 (x17 + 1)) (L236 0 (x17 + 1))))) (L236 1 (x17 + 1))))) FU (b2 z) 0) Y = if (z || oH D r m (nI c)) = true then some (0, wY Y 3) else K Y := by
  have main := lz2_from (B := (fun L236 x16 x17 => (it (nI m ≤ x17) (it (x16 = 0) K (ca (fX12_bad 3) fun v27 => (rz v27))) (it (x16 = 0) (rA 221 226 ((126 + (6 * nI r)) + x17) fun v28 => (gI 218 18 fun v29 => (it (v28 = v29) (L236 1 (x17 + 1)) (L236 0 (x17 + 1))))) (L236 1 (x17 + 1)))))) (fun i => b2 (z || oH D r i (nI c))) (fun _ => Y) (n := m) (E := if (z || oH D r m (nI c)) = true then some (0, wY Y 3) else K Y) (fun i L hi => ?_) (fun L => ?_) m 0 FU (by omega) (by rw [FU_eq]; omega)
  · have e0 : (z || oH D r 0 (nI c)) = z := by unfold oH; rw [an, Bool.or_false]
    rw [e0] at main
    exact main
  · have st : oH D r (i + 1) (nI c) = (oH D r i (nI c) || decide (D 13 (r * 6 + i) = nI c)) := rfl
    rw [it_f (nI_ge hi (by omega)), st, ← Bool.or_assoc, nI_1]
    cases q : (z || oH D r i (nI c))
    · rw [it_t (show b2 false = 0 from rfl), ix_lm, ix_la, nI_add, rA_n (by omega) (by decide), h.s, hd i hi, gI_e, h18, Bool.false_or, it_e]
      by_cases e : D 13 (r * 6 + i) = nI c
      · rw [if_pos e, decide_eq_true e]; rfl
      · rw [if_neg e, decide_eq_false e]; rfl
    · rw [it_f (show ¬ b2 true = 0 by decide), Bool.true_or]; rfl
  · rw [it_t (nI_le (Nat.le_refl _) (by omega))]
    cases q : (z || oH D r m (nI c))
    · rw [it_t (show b2 false = 0 from rfl), if_neg (by decide)]
    · rw [it_f (show ¬ b2 true = 0 by decide), if_pos rfl, ca_s (e_bad 3), rz_0]
end OV
