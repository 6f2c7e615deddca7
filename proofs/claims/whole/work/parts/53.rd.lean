/-! the reference's readers -/
section RD
variable {P V : m_V} {X : X_}
theorem e_isIn (a b c : Int32) : fX12_isIn a b c X = some (b2 (decide (b ≤ a ∧ a ≤ c)), X) := by
  have h1 : (a < b) ↔ ¬ b ≤ a := by rw [i32_le, i32_lt]; omega
  have h2 : (c < a) ↔ ¬ a ≤ c := by rw [i32_le, i32_lt]; omega
  unfold fX12_isIn
  simp only [it_e, re_e, h1, h2]
  by_cases c1 : b ≤ a <;> by_cases c2 : a ≤ c <;> simp [c1, c2, b2]
theorem e_bitOf (x : Int32) {k : Nat} (hk : k < 32) : fX12_bitOf x (nI k) X = some (b2 (bt x k), X) := by
  unfold fX12_bitOf
  simp only [it_e, re_e, b_tst hk, b2_1]
  cases bt x k <;> rfl
/-- a number from 0 on, below n -/
theorem isIn_n (a : Int32) {n : Nat} (hn : n < 2 ^ 31) : (0 ≤ a ∧ a ≤ nI n - 1) ↔ (0 ≤ a ∧ a < nI n) := by
  rw [i32_le, i32_le, i32_lt]
  have h0 : (0 : Int32).toInt = 0 := rfl
  have h2 : (nI n).toInt = n := nI_toInt hn
  by_cases c : n = 0
  · subst c
    have : (nI 0 - 1 : Int32).toInt = -1 := by decide +kernel
    rw [this, h2]
    omega
  · obtain ⟨m, rfl⟩ : ∃ m, n = m + 1 := ⟨n - 1, by omega⟩
    rw [nI_pred, nI_toInt (by omega), h2]
    omega
theorem e_isRoute (hL : RLa P (X.1 220)) (w : okP P) (a : Int32) : fX12_isRoute a X = some (b2 (decide (0 ≤ a ∧ a < P 1 4)), X) := by
  unfold fX12_isRoute
  rw [rA_l (by decide) (by decide), hL.n4 w, ca_s (e_isIn _ _ _), rz_b, w.c4.1]
  simp only [isIn_n a (show ct P 4 < 2 ^ 31 by have := w.c4.2; omega)]
theorem e_isSection (hL : RLa P (X.1 220)) (w : okP P) (a : Int32) : fX12_isSection a X = some (b2 (decide (0 ≤ a ∧ a < P 1 0)), X) := by
  unfold fX12_isSection
  rw [rA_l (by decide) (by decide), hL.n0 w, ca_s (e_isIn _ _ _), rz_b, w.c0.1]
  simp only [isIn_n a (show ct P 0 < 2 ^ 31 by have := w.c0.2; omega)]
theorem e_arePoints (hL : RLa P (X.1 220)) (w : okP P) (a : Int32) : fX12_arePoints a X = some (b2 (decide (0 ≤ a ∧ a < P 1 1)), X) := by
  unfold fX12_arePoints
  rw [rA_l (by decide) (by decide), hL.n1 w, ca_s (e_isIn _ _ _), rz_b, w.c1.1]
  simp only [isIn_n a (show ct P 1 < 2 ^ 31 by have := w.c1.2; omega)]
theorem e_isTrain (hL : RLa P (X.1 220)) (w : okP P) (a : Int32) : fX12_isTrain a X = some (b2 (decide (0 ≤ a ∧ a < P 1 6)), X) := by
  unfold fX12_isTrain
  rw [rA_l (by decide) (by decide), hL.n6 w, ca_s (e_isIn _ _ _), rz_b, w.c6.1]
  simp only [isIn_n a (show ct P 6 < 2 ^ 31 by have := w.c6.2; omega)]
theorem e_trainIn (hL : RLa P (X.1 220)) (w : okP P) (hS : RS P V (X.1 220)) (k b : Int32) : fX12_trainIn k b X = some (s_leastTrainIn P V k b, X) := by
  have hb := w.c6.2
  unfold fX12_trainIn s_leastTrainIn
  refine lz1_ff _ (by omega) (fun i L hi => ?_) (fun L => ?_)
  · rw [rA_l (by decide) (by decide), hL.n6 w, it_e, if_neg (nI_ge hi (by omega)), it_e]
    by_cases c : nI i = b
    · simp only [c, not_true, false_and, decide_false, if_true, nI_1]
      simp [← c, nI_1]
    · rw [if_neg c, ix_la, rA_n (by omega) (by decide), hS.at hi, it_e, re_e, nI_1]
      simp only [cp_inj, c, not_false_eq_true, true_and, decide_eq_true_eq]
  · rw [rA_l (by decide) (by decide), hL.n6 w, it_e, if_pos (nI_le (Nat.le_refl _) (by omega))]
    rfl
theorem e_routesOf (hL : RLa P (X.1 220)) (w : okP P) (g : Int32) : fX12_routesOf g X = some (p_routesOf P g, X) := by
  have hb := w.c4.2
  unfold fX12_routesOf p_routesOf
  refine lz2_bo (E := fun a => some (a, X)) _ (by omega) (fun i a L hi => ?_) (fun a L => ?_)
  · rw [rA_l (by decide) (by decide), hL.n4 w, it_e, if_neg (nI_ge hi (by omega)), ix_la, rA_n (by omega) (by decide), hL.r11 hi, it_e, nI_1]
    simp
  · rw [rA_l (by decide) (by decide), hL.n4 w, it_e, if_pos (nI_le (Nat.le_refl _) (by omega))]
    rfl
theorem e_busy (hL : RLa P (X.1 220)) (w : okP P) (hS : RS P V (X.1 220)) : fX12_busy X = some (s_notFree P V, X) := by
  have hb := w.c4.2
  unfold fX12_busy s_notFree
  refine lz2_bo (E := fun a => some (a, X)) _ (by omega) (fun i a L hi => ?_) (fun a L => ?_)
  · rw [rA_l (by decide) (by decide), hL.n4 w, it_e, if_neg (nI_ge hi (by omega)), ix_la, rA_n (by omega) (by decide), hS.how hi, it_e, nI_1]
    by_cases c : V 1 i = 0 <;> simp [c]
  · rw [rA_l (by decide) (by decide), hL.n4 w, it_e, if_pos (nI_le (Nat.le_refl _) (by omega))]
    rfl
theorem e_setOf (hL : RLa P (X.1 220)) (w : okP P) (hS : RS P V (X.1 220)) (g : Int32) : fX12_setOf g X = some (s_setRouteOf P V g, X) := by
  have hb := w.c4.2
  unfold fX12_setOf s_setRouteOf
  refine lz1_ff _ (by omega) (fun i L hi => ?_) (fun L => ?_)
  · rw [rA_l (by decide) (by decide), hL.n4 w, it_e, if_neg (nI_ge hi (by omega)), ix_la, rA_n (by omega) (by decide), hL.r11 hi, it_e, nI_1]
    by_cases c : P 11 i = g
    · rw [if_pos c, ix_la, rA_n (by omega) (by decide), hS.how hi, it_e]
      by_cases c2 : V 1 i = 1 <;> simp [c, c2, re_e]
    · simp [c]
  · rw [rA_l (by decide) (by decide), hL.n4 w, it_e, if_pos (nI_le (Nat.le_refl _) (by omega))]
    rfl
theorem e_usedBy (hL : RLa P (X.1 220)) (w : okP P) (hS : RS P V (X.1 220)) {t : Nat} (ht : t < 5) : fX12_usedBy (nI t) X = some (s_routesUsedBy P V (nI t), X) := by
  have hb := w.c4.2
  unfold fX12_usedBy s_routesUsedBy
  refine lz2_bo (E := fun a => some (a, X)) _ (by omega) (fun i a L hi => ?_) (fun a L => ?_)
  · rw [rA_l (by decide) (by decide), hL.n4 w, it_e, if_neg (nI_ge hi (by omega)), ix_la, rA_n (by omega) (by decide), hS.us hi, it_e, nI_1 i]
    by_cases c : V 1 i = 2
    · rw [if_pos c, if_cp]
      simp [c]
    · have h0 : ¬ (0 : Int32) = nI t + 1 := by
        rw [nI_1]
        exact fun e => nI_ne0 (by omega) (by omega) e.symm
      rw [if_neg c, if_neg h0]
      simp [c]
  · rw [rA_l (by decide) (by decide), hL.n4 w, it_e, if_pos (nI_le (Nat.le_refl _) (by omega))]
    rfl
theorem e_waitedInAll (hL : RLa P (X.1 220)) (w : okP P) (hS : RS P V (X.1 220)) : fX12_waitedInAll X = some (s_waitedByAll P V, X) := by
  have hb := w.c6.2
  unfold fX12_waitedInAll s_waitedByAll
  refine lz2_lo (E := fun a => some (a, X)) _ (by omega) (fun i a L hi => ?_) (fun a L => ?_)
  · rw [rA_l (by decide) (by decide), hL.n6 w, it_e, if_neg (nI_ge hi (by omega)), ix_la, rA_n (by omega) (by decide), hS.wd hi, nI_1]
  · rw [rA_l (by decide) (by decide), hL.n6 w, it_e, if_pos (nI_le (Nat.le_refl _) (by omega))]
    rfl
theorem e_wanting (hL : RLa P (X.1 220)) (w : okP P) (k : Nat) (hk : k < 6) (l : Int32) (hl : l = 0 ∨ l = 1) : fX12_wanting (nI k) (if l = 0 then 186 else 196) X = some (p_routesNeeding P (nI k) l, X) := by
  have hb := w.c4.2
  unfold fX12_wanting p_routesNeeding
  refine lz2_lo (E := fun a => some (a, X)) _ (by omega) (fun i a L hi => ?_) (fun a L => ?_)
  · rw [rA_l (by decide) (by decide), hL.n4 w, it_e, if_neg (nI_ge hi (by omega))]
    have hz : (0 : Int32) <<< (nI i &&& 31) = 0 := b_ext (fun j hj => by rw [b_shl i (by omega) 0 hj, b_0, b_0, Bool.and_false])
    rcases hl with rfl | rfl
    · rw [if_pos rfl, if_pos rfl, ix_la, rA_n (by omega) (by decide), hL.r15 hi, ca_s (e_bitOf _ (by omega)), it_e, nI_1, b_tst (by omega)]
      cases bt (P 15 i) k <;> simp [b2, hz]
    · rw [if_neg (by decide), if_neg (by decide), ix_la, rA_n (by omega) (by decide), hL.r16 hi, ca_s (e_bitOf _ (by omega)), it_e, nI_1, b_tst (by omega)]
      cases bt (P 16 i) k <;> simp [b2, hz]
  · rw [rA_l (by decide) (by decide), hL.n4 w, it_e, if_pos (nI_le (Nat.le_refl _) (by omega))]
    rfl
theorem e_sectionsOf (hL : RLa P (X.1 220)) (w : okP P) (hR : wfR P) {r : Nat} (hr : r < ct P 4) : fX12_sectionsOf (nI r) X = some (P 14 r, X) := by
  have hb := w.c4.2
  obtain ⟨-, ⟨m, em, hm, -, e14⟩, -⟩ := hR r hr
  have hcl : (P 12 r).toNatClampNeg = m := by rw [em, nI_clamp (by omega)]
  unfold fX12_sectionsOf
  rw [e14]
  refine lz2_lo (E := fun a => some (a, X)) _ (by omega) (fun i a L hi => ?_) (fun a L => ?_)
  · rw [ix_la, rA_n (by omega) (by decide), hL.r12 hr, em, it_e, if_neg (nI_ge hi (by omega)), ix_lm, ix_la, nI_add, rA_n (by omega) (by decide), hL.r13 hr (by omega), nI_1]
  · rw [ix_la, rA_n (by omega) (by decide), hL.r12 hr, em, it_e, if_pos (nI_le (Nat.le_refl _) (by omega))]
    rfl
theorem e_isConflict (hL : RLa P (X.1 220)) (w : okP P) (hR : wfR P) {r q : Nat} (hr : r < ct P 4) (hq : q < ct P 4) : fX12_isConflict (nI r) (nI q) X = some (b2 (decide (q ≠ r) && p_conflict P r q), X) := by
  have hb := w.c4.2
  unfold fX12_isConflict p_conflict
  rw [it_e]
  by_cases c : r = q
  · subst c
    simp [re_e, b2]
  · have c1 : ¬ nI r = nI q := fun e => c ((nI_eq (by omega) (by omega)).mp e)
    have c2 : q ≠ r := fun e => c e.symm
    rw [if_neg c1, ix_la, rA_n (by omega) (by decide), hL.r11 hr, ix_la, rA_n (by omega) (by decide), hL.r11 hq, it_e]
    by_cases d1 : P 11 r = P 11 q
    · simp [d1, c2, b2, re_e]
    · rw [if_neg d1, ca_s (e_sectionsOf hL w hR hr), ca_s (e_sectionsOf hL w hR hq), it_e]
      by_cases d2 : P 14 r &&& P 14 q = 0
      · rw [if_pos d2, ix_la, rA_n (by omega) (by decide), hL.r15 hr, ix_la, rA_n (by omega) (by decide), hL.r16 hq, ix_la, rA_n (by omega) (by decide), hL.r16 hr, ix_la, rA_n (by omega) (by decide), hL.r15 hq, it_e, re_e, re_e]
        have hor : (P 15 r &&& P 16 q ||| P 16 r &&& P 15 q = 0) ↔ (P 15 r &&& P 16 q = 0 ∧ P 16 r &&& P 15 q = 0) := by
          simp only [b_eq0, b_or]
          constructor
          · intro h
            exact ⟨fun i hi => by have := h i hi; simp at this; exact this.1, fun i hi => by have := h i hi; simp at this; exact this.2⟩
          · intro h i hi
            rw [h.1 i hi, h.2 i hi]
            rfl
        by_cases d3 : P 15 r &&& P 16 q = 0 <;> by_cases d4 : P 16 r &&& P 15 q = 0 <;> simp [hor, d1, d2, d3, d4, c2, b2]
      · simp [d1, d2, c2, b2, re_e]
theorem e_conflictsOf (hL : RLa P (X.1 220)) (w : okP P) (hR : wfR P) (hC : wfC P) {r : Nat} (hr : r < ct P 4) : fX12_conflictsOf (nI r) X = some (P 18 r, X) := by
  have hb := w.c4.2
  unfold fX12_conflictsOf
  rw [hC r hr]
  refine lz2_bo (E := fun a => some (a, X)) _ (by omega) (fun i a L hi => ?_) (fun a L => ?_)
  · rw [rA_l (by decide) (by decide), hL.n4 w, it_e, if_neg (nI_ge hi (by omega)), ca_s (e_isConflict hL w hR hr hi), it_e, nI_1, if_b0]
    cases (decide (i ≠ r) && p_conflict P r i) <;> simp
  · rw [rA_l (by decide) (by decide), hL.n4 w, it_e, if_pos (nI_le (Nat.le_refl _) (by omega))]
    rfl
end RD
