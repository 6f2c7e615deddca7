/-! a book: judged -/
section BJ
variable {X Y X1 Y1 XB YB : X_} {P : m_V}
noncomputable def kJE : RM Int32 := (pI 126 4 1 (gI 54 1 fun v2 => (pI 126 7 v2 (ca (fX8_notFree 54) fun v3 => (pI 126 8 v3 (gI 126 5 fun v4 => (it (v4 = 0) (re (-1)) (gI 126 6 fun v5 => (re v5)))))))))
noncomputable def kJC : Nat → RM Int32 := lz0 (fun L10 => (gI 126 5 fun v1 => (jo0 kJE (fun J61 => (it (v1 = 0) (gI 126 6 fun v6 => (gI 126 3 fun v7 => (it (v7 ≤ v6) J61 (gI 126 6 fun v8 => (ca (fX0_liveLine v8) fun v9 => (pI 126 5 v9 (gI 126 5 fun v10 => (it (v10 = 0) (gI 126 6 fun v11 => (pI 126 6 (v11 + 1) L10)) L10)))))))) J61)))))
theorem judge_def : fX0_judge = (pI 126 5 0 (pI 126 6 0 (kJC FU))) := rfl
def kJR (E : Int32 → RM Int32) : Nat → Int32 → Int32 → RM Int32 := lz2 (fun L111 x4 x5 => (gI 218 38 fun v6 => (jo0 (E x4) (fun J191 => (it (v6 ≤ x5) J191 (it (0 ≤ x4) J191 (rA 222 135 (3 * x5) fun v13 => (rA 222 135 ((3 * x5) + 1) fun v14 => (rA 222 135 ((3 * x5) + 2) fun v15 => (ca (fX12_does v13 v14 v15) fun v16 => (wA 233 4 0 v16 (rA 233 4 0 fun v17 => (it (v17 ≤ 0) (rA 233 4 1 fun v18 => (wA 233 4 1 (v18 + 1) (L111 x4 (x5 + 1)))) (L111 x5 (x5 + 1)))))))))))))))
theorem kJC_s {f : Nat} : kJC (f + 1) = (gI 126 5 fun v1 => (jo0 kJE (fun J61 => (it (v1 = 0) (gI 126 6 fun v6 => (gI 126 3 fun v7 => (it (v7 ≤ v6) J61 (gI 126 6 fun v8 => (ca (fX0_liveLine v8) fun v9 => (pI 126 5 v9 (gI 126 5 fun v10 => (it (v10 = 0) (gI 126 6 fun v11 => (pI 126 6 (v11 + 1) (kJC f))) (kJC f))))))))) J61)))) := rfl
theorem kJR_s {E : Int32 → RM Int32} {f : Nat} {x4 x5 : Int32} : kJR E (f + 1) x4 x5 = (gI 218 38 fun v6 => (jo0 (E x4) (fun J191 => (it (v6 ≤ x5) J191 (it (0 ≤ x4) J191 (rA 222 135 (3 * x5) fun v13 => (rA 222 135 ((3 * x5) + 1) fun v14 => (rA 222 135 ((3 * x5) + 2) fun v15 => (ca (fX12_does v13 v14 v15) fun v16 => (wA 233 4 0 v16 (rA 233 4 0 fun v17 => (it (v17 ≤ 0) (rA 233 4 1 fun v18 => (wA 233 4 1 (v18 + 1) (kJR E f x4 (x5 + 1)))) (kJR E f x5 (x5 + 1))))))))))))) ) := rfl
def JI (XB YB : X_) (P : m_V) (i : Nat) (X Y : X_) : Prop := ((∀ a, ¬ (54 ≤ a ∧ a < 61) → ¬ a = 126 → X.1 a = XB.1 a) ∧ X.2 = XB.2 ∧ ∀ k, ¬ k = 5 → ¬ k = 6 → X.1 126 k = XB.1 126 k) ∧ ((∀ a, ¬ a = 220 → ¬ a = 233 → Y.1 a = YB.1 a) ∧ Y.2 = YB.2) ∧ (fr (YB.1 220) (Y.1 220) ∧ (i = 0 → Y.1 220 = YB.1 220)) ∧ wfN P (bV X 54) ∧ wfM P (bV X 54) ∧ RW P (bV X 54) (Y.1 220)
theorem r_judge {l : Nat} {E : Int32 → RM Int32} (hL : wfL P) (hP : bP XB 4 = P) (hR : RLa P (YB.1 220)) (l40 : l ≤ 40) (lx : XB.1 126 3 = nI l) (ly : YB.1 218 38 = nI l) (hB : BR P l (XB.1 127) (XB.1 128) (XB.1 129) (YB.1 222)) : ∀ m fc fz i X Y, JI XB YB P i X Y → X.1 126 5 = 0 → X.1 126 6 = nI i → Y.1 233 0 = 0 → Y.1 233 1 = nI i → i + m = l → m + 1 < fc → m + 1 < fz → ∃ v x4 X1 Y1 g, kJC fc X = kJE X1 ∧ kJR E fz (-1) (nI i) Y = E x4 Y1 ∧ JI XB YB P g X1 Y1 ∧ X1.1 126 5 = v ∧ Y1.1 233 0 = v ∧ X1.1 126 6 = nI g ∧ Y1.1 233 1 = nI g ∧ (v = 0 ∧ x4 = -1 ∨ ¬ v = 0 ∧ x4 = nI g) ∧ g ≤ l := by
  have ok := hL.ok
  have bd := ok.bd
  intro m
  induction m with
  | zero =>
    intro fc fz i X Y h x5 x6 y0 y1 hi hfc hfr
    obtain ⟨fc, rfl⟩ : ∃ g, fc = g + 1 := ⟨fc - 1, by omega⟩
    obtain ⟨fz, rfl⟩ : ∃ g, fz = g + 1 := ⟨fz - 1, by omega⟩
    obtain rfl : i = l := by omega
    refine ⟨0, -1, X, Y, i, ?_, ?_, h, x5, y0, x6, y1, Or.inl ⟨rfl, rfl⟩, Nat.le_refl _⟩
    · rw [kJC_s, gI_e, jo0_e, x5, it_t rfl, gI_e, gI_e, x6, h.1.2.2 3 (by decide) (by decide), lx, it_t (nI_le (Nat.le_refl _) (by omega))]
    · rw [kJR_s, gI_e, h.2.1.1 218 (by decide) (by decide), ly, jo0_e, it_t (nI_le (Nat.le_refl _) (by omega))]
  | succ m ih =>
    intro fc fz i X Y h x5 x6 y0 y1 hi hfc hfr
    obtain ⟨fc, rfl⟩ : ∃ g, fc = g + 2 := ⟨fc - 2, by omega⟩
    obtain ⟨fz, rfl⟩ : ∃ g, fz = g + 2 := ⟨fz - 2, by omega⟩
    obtain ⟨⟨f1, f2, f3⟩, ⟨g1, g2⟩, ⟨s1, s2⟩, wN, wM, wR⟩ := h
    have XP : bP X 4 = P := by rw [← hP]; exact bB_same (fun a h1 h2 => f1 a (by omega) (by omega))
    have hRY : RLa P (Y.1 220) := hR.lt ok hL.r (fun k hk => s1 k (Or.inl hk))
    have b1 := hB i (by omega)
    rw [← f1 127 (by omega) (by decide), ← f1 128 (by omega) (by decide), ← f1 129 (by omega) (by decide), ← g1 222 (by decide) (by decide)] at b1
    obtain ⟨v, X', S', e1, e2, e3, e4, e5, e6, e7, e8⟩ := r_live (Y := Y) hL XP wN wM hRY wR (by omega) b1
    have x126 : X'.1 126 = X.1 126 := e4.1 126 (by omega)
    have cm : kJC (fc + 2) X = (it (v = 0) (pI 126 6 (nI (i + 1)) (kJC (fc + 1))) (kJC (fc + 1))) (sI X' 126 5 v) := by
      rw [kJC_s, gI_e, jo0_e, x5, it_t rfl, gI_e, gI_e, x6, f3 3 (by decide) (by decide), lx, it_f (nI_ge (by omega) (by omega)), gI_e, x6, ca_s e1, pI_e, gI_e, sI_eq, it_e, it_e]
      rw [gI_e, sI_ne (by decide), x126, x6, nI_1]
    have rf : kJR E (fz + 2) (-1) (nI i) Y = (it (v ≤ 0) (rA 233 4 1 fun v18 => (wA 233 4 1 (v18 + 1) (kJR E (fz + 1) (-1) (nI (i + 1))))) (kJR E (fz + 1) (nI i) (nI (i + 1)))) (sI (rowS Y S') 233 0 v) := by
      rw [kJR_s, gI_e, g1 218 (by decide) (by decide), ly, jo0_e, it_f (nI_ge (by omega) (by omega)), it_f (by decide), ix_lm, rA_n (by omega) (by decide), ix_al, rA_n (by omega) (by decide), ix_al, rA_n (by omega) (by decide), ca_s e2, wA_l (by decide) (by decide), rA_l (by decide) (by decide), sI_eq, nI_1]
    have rS : ∀ a, ¬ a = 220 → (rowS Y S').1 a = Y.1 a := fun a ha => setR_ne ha
    have rS0 : (rowS Y S').1 220 = S' := setR_eq
    have rS2 : (rowS Y S').2 = Y.2 := rfl
    have bv : ∀ Z : X_, (∀ a, ¬ a = 126 → Z.1 a = X'.1 a) → bV Z 54 = bV X' 54 := fun Z hZ => bB_same (fun a h1 h2 => hZ a (by omega))
    have trf : fr (YB.1 220) S' := fun k hk => (e8 k hk).trans (s1 k hk)
    rcases e3 with rfl | ⟨v1, v2, v3⟩
    · -- done
      rw [it_t rfl, pI_e] at cm
      rw [it_t (by decide), rA_l (by decide) (by decide), sI_ne (by decide), rS 233 (by decide), y1, nI_1, wA_l (by decide) (by decide)] at rf
      generalize hXn : sI (sI X' 126 5 0) 126 6 (nI (i + 1)) = Xn at cm
      generalize hYn : sI (sI (rowS Y S') 233 0 0) 233 1 (nI (i + 1)) = Yn at rf
      have xr : ∀ a, ¬ a = 126 → Xn.1 a = X'.1 a := fun a ha => by rw [← hXn, sI_row ha, sI_row ha]
      have yr : ∀ a, ¬ a = 233 → Yn.1 a = (rowS Y S').1 a := fun a ha => by rw [← hYn, sI_row ha, sI_row ha]
      have J : JI XB YB P (i + 1) Xn Yn := by
        refine ⟨⟨fun a h1 h2 => ?_, ?_, fun k h1 h2 => ?_⟩, ⟨fun a h1 h2 => ?_, ?_⟩, ⟨?_, fun z => absurd z (by omega)⟩, ?_, ?_, ?_⟩
        · rw [xr a h2, e4.1 a h1, f1 a h1 h2]
        · rw [← hXn]
          show X'.2 = _
          rw [e4.2, f2]
        · rw [← hXn, sI_ne (by omega), sI_ne (by omega), x126, f3 k h1 h2]
        · rw [yr a h2, rS a h1, g1 a h1 h2]
        · rw [← hYn]
          exact g2
        · rw [yr 220 (by decide), rS0]; exact trf
        · rw [bv Xn xr]; exact e5
        · rw [bv Xn xr]; exact e6
        · rw [bv Xn xr, yr 220 (by decide), rS0]; exact e7
      rw [cm, rf]
      exact ih (fc + 1) (fz + 1) (i + 1) Xn Yn J (by rw [← hXn, sI_ne (by decide), sI_eq]) (by rw [← hXn, sI_eq]) (by rw [← hYn, sI_ne (by decide), sI_eq]) (by rw [← hYn, sI_eq]) (by omega) (by omega) (by omega)
    · -- it can't be done
      subst v3
      rw [it_f v2] at cm
      rw [it_f v1] at rf
      rw [show rowS Y (Y.1 220) = Y from rowS_self] at rf
      refine ⟨v, nI i, sI X' 126 5 v, sI Y 233 0 v, i, ?_, ?_, ⟨⟨fun a h1 h2 => ?_, ?_, fun k h1 h2 => ?_⟩, ⟨fun a h1 h2 => ?_, g2⟩, ⟨?_, fun z => ?_⟩, ?_, ?_, ?_⟩, sI_eq, sI_eq, ?_, ?_, Or.inr ⟨v2, rfl⟩, by omega⟩
      · rw [cm, kJC_s, gI_e, jo0_e, sI_eq, it_f v2]
      · rw [rf, kJR_s, gI_e, sI_row (by decide), g1 218 (by decide) (by decide), ly, jo0_e, it_e]
        by_cases c : nI l ≤ nI (i + 1)
        · rw [if_pos c]
        · rw [if_neg c, it_t (nI_pos' (by omega))]
      · rw [sI_row h2, e4.1 a h1, f1 a h1 h2]
      · show X'.2 = _
        rw [e4.2, f2]
      · rw [sI_ne (by omega), x126, f3 k h1 h2]
      · rw [sI_row h2, g1 a h1 h2]
      · rw [sI_row (by decide)]; exact s1
      · rw [sI_row (by decide)]; exact s2 z
      · rw [bv _ (fun a ha => sI_row ha)]; exact e5
      · rw [bv _ (fun a ha => sI_row ha)]; exact e6
      · rw [bv _ (fun a ha => sI_row ha), sI_row (by decide)]; exact e7
      · rw [sI_ne (by decide), x126, x6]
      · rw [sI_ne (by decide), y1]
end BJ
