/-! what shows; what may be set, put back, thrown -/
section SH
variable {P V : m_V} {X : X_}
theorem occ_bt : ∀ n, (∀ t, t < n → V 4 t = -1 ∨ ∃ c, V 4 t = nI c ∧ c < 32) → ∀ i, i < 32 → (bt (lo (fun t a => if V 4 t = -1 then a else a ||| (1 <<< (V 4 t &&& 31))) n 0) i = true ↔ ∃ t, t < n ∧ V 4 t = nI i) := by
  intro n
  induction n with
  | zero => intro _ i hi; simp [lo, b_0]
  | succ n ih =>
    intro h i hi
    have ih := ih (fun t ht => h t (by omega)) i hi
    rw [lo]
    rcases h n (by omega) with e | ⟨c, e, hc⟩
    · rw [if_pos e, ih]
      constructor
      · rintro ⟨t, ht, q⟩
        exact ⟨t, by omega, q⟩
      · rintro ⟨t, ht, q⟩
        by_cases c1 : t = n
        · subst c1
          rw [e] at q
          exact absurd q.symm (nI_m1 (by omega))
        · exact ⟨t, by omega, q⟩
    · rw [if_neg (by rw [e]; exact nI_m1 (by omega)), b_or, Bool.or_eq_true, ih, e, b_bit hc hi, decide_eq_true_eq]
      constructor
      · rintro (⟨t, ht, q⟩ | q)
        · exact ⟨t, by omega, q⟩
        · exact ⟨n, by omega, by rw [e, q]⟩
      · rintro ⟨t, ht, q⟩
        by_cases c1 : t = n
        · subst c1
          rw [e] at q
          exact Or.inr ((nI_eq (by omega) (by omega)).mp q).symm
        · exact Or.inl ⟨t, by omega, q⟩
theorem wfD.in32 (w : okP P) (h : wfD P V) : ∀ t, t < ct P 6 → V 4 t = -1 ∨ ∃ c, V 4 t = nI c ∧ c < 32 := fun t ht => by
  have h0 := w.c0.2
  rcases h t ht with e | ⟨c, e, hc⟩
  · exact Or.inl e
  · exact Or.inr ⟨c, e, by omega⟩
theorem occ_bit (w : okP P) (h : wfD P V) {i : Nat} (hi : i < 32) : bt (s_occupied P V) i = true ↔ ∃ t, t < ct P 6 ∧ V 4 t = nI i := occ_bt (ct P 6) (h.in32 w) i hi
theorem least_m1 (w : okP P) (k : Int32) : s_leastTrainIn P V k (-1) = -1 ↔ ∀ t, t < ct P 6 → ¬ V 4 t = k := by
  have hb := w.c6.2
  unfold s_leastTrainIn
  rw [ff_m1 _ _ (by omega)]
  constructor
  · intro h t ht e
    have := h t (by omega) (by omega)
    rw [decide_eq_false_iff_not] at this
    exact this ⟨nI_m1 (by omega), e⟩
  · intro h t _ ht
    rw [decide_eq_false_iff_not]
    rintro ⟨-, e⟩
    exact h t (by omega) e
theorem occ_least (w : okP P) (h : wfD P V) {i : Nat} (hi : i < 32) : bt (s_occupied P V) i = decide (¬ s_leastTrainIn P V (nI i) (-1) = -1) := by
  rw [Bool.eq_iff_iff, occ_bit w h hi, decide_eq_true_eq, least_m1 w]
  constructor
  · rintro ⟨t, ht, e⟩ q
    exact q t ht e
  · intro q
    apply Classical.byContradiction
    intro q2
    exact q (fun t ht e => q2 ⟨t, ht, e⟩)
theorem ff_nn (p : Nat → Bool) : ∀ m i, i + m < 2 ^ 31 → (ff p i m < 0 ↔ ff p i m = -1) := by
  intro m
  induction m with
  | zero => intro i _; simp only [ff, iff_true]; decide
  | succ m ih =>
    intro i hb
    rw [ff]
    by_cases h : p i = true
    · rw [if_pos h]
      exact ⟨fun e => absurd e (nI_pos (by omega)), fun e => absurd e (nI_m1 (by omega))⟩
    · rw [if_neg h]
      exact ih (i + 1) (by omega)
theorem least_nn (w : okP P) (k b : Int32) : (s_leastTrainIn P V k b < 0) ↔ s_leastTrainIn P V k b = -1 := ff_nn _ _ _ (by have := w.c6.2; omega)
theorem e_showsBy (hL : RLa P (X.1 220)) (w : okP P) (hS : RS P V (X.1 220)) (hD : wfD P V) {k : Nat} (hk : k < 32) (f : Int32) : fX12_showsBy (nI k) f X = some (b2 (decide (f = 2) || decide (f = 0) && bt (s_occupied P V) k), X) := by
  unfold fX12_showsBy
  rw [it_e, it_e]
  by_cases c : f = 2
  · simp [c, re_e, b2]
  · rw [if_neg c]
    by_cases c2 : f = 0
    · rw [if_pos c2, ca_s (e_trainIn hL w hS _ _), it_e, occ_least w hD hk]
      simp only [least_nn w]
      by_cases c3 : s_leastTrainIn P V (nI k) (-1) = -1 <;> simp [c2, c3, re_e, b2]
    · simp [c, c2, re_e, b2]
theorem fail_val (V : m_V) {k : Nat} (hk : k < 32) : s_failing V (nI k) = b2 (bt (V 0 4) k) + 2 * b2 (bt (V 0 5) k) := by
  unfold s_failing
  rw [b_tst hk, b_tst hk]
theorem show_bit (V : m_V) {k : Nat} (hk : k < 32) (hA : ¬ (bt (V 0 4) k = true ∧ bt (V 0 5) k = true)) : bt (s_showing P V) k = (decide (s_failing V (nI k) = 2) || decide (s_failing V (nI k) = 0) && bt (s_occupied P V) k) := by
  unfold s_showing
  rw [b_or, b_and, b_not hk, fail_val V hk]
  revert hA
  cases bt (V 0 4) k <;> cases bt (V 0 5) k <;> cases bt (s_occupied P V) k <;> simp [b2] <;> decide
theorem wfA.dis (h : wfA P V) {i : Nat} (hi : i < 32) : ¬ (bt (V 0 4) i = true ∧ bt (V 0 5) i = true) := h.2.2.2.1 i hi
theorem e_showsFull (hL : RLa P (X.1 220)) (w : okP P) (hS : RS P V (X.1 220)) (hN : wfN P V) {k : Nat} (hk : k < ct P 0) : fX12_showsFull (nI k) X = some (b2 (bt (s_showing P V) k), X) := by
  have hb := w.c0.2
  unfold fX12_showsFull
  rw [ix_la, rA_n (by omega) (by decide), hS.fl hk, ca_s (e_showsBy hL w hS hN.2.2 (by omega) _), rz_b, show_bit V (by omega) (hN.1.dis (by omega))]
theorem e_wrongPoints (hL : RLa P (X.1 220)) (w : okP P) (hS : RS P V (X.1 220)) {r : Nat} (hr : r < ct P 4) : fX12_wrongPoints (nI r) X = some (s_pointsAgainst P V r, X) := by
  have hb := w.c4.2
  unfold fX12_wrongPoints
  rw [ix_la, rA_n (by omega) (by decide), rA_l (by decide) (by decide), ix_la, rA_n (by omega) (by decide), rA_l (by decide) (by decide), hL.r15 hr, hL.r16 hr, hS.rev]
  rfl
theorem e_rivals (hL : RLa P (X.1 220)) (w : okP P) (hR : wfR P) {r : Nat} (hr : r < ct P 4) : fX12_rivals (nI r) X = some (s_barring P r, X) := by
  have hb := w.c4.2
  unfold fX12_rivals
  rw [ix_la, rA_n (by omega) (by decide), ix_la, rA_n (by omega) (by decide), hL.r17 hr, hL.r11 hr, ca_s (e_routesOf hL w _), re_e]
  refine congrArg (fun x => some (x, X)) (b_ext (fun i hi => ?_))
  obtain ⟨-, -, -, -, -, h17⟩ := hR r hr
  unfold s_barring
  rw [b_and, b_or, b_or, b_and, b_not hi, b_bit (by omega) hi]
  by_cases c : i = r
  · subst c
    simp [h17]
  · simp [c]
/-- 'or' over the places below n -/
theorem lz2_an {B : (Int32 → Int32 → RM Int32) → Int32 → Int32 → RM Int32} {X : X_} (p : Nat → Bool) {n : Nat} (hn : n < 5000)
    (h1 : ∀ i L, i < n → B L 0 (nI i) X = if p i = true then L 1 (nI (i + 1)) X else L 0 (nI (i + 1)) X) (h2 : ∀ i L, i < n → B L 1 (nI i) X = L 1 (nI (i + 1)) X) (h3 : ∀ b L, B L (b2 b) (nI n) X = some (b2 b, X)) : lz2 B FU 0 0 X = some (b2 (an p n), X) :=
  lz2_from (fun i => b2 (an p i)) (fun _ => X) (fun i L hi => by
    show B L (b2 (an p i)) (nI i) X = L (b2 (an p i || p i)) (nI (i + 1)) X
    cases h : an p i
    · show B L 0 (nI i) X = _
      rw [h1 i L hi]
      cases h4 : p i <;> simp [b2]
    · show B L 1 (nI i) X = _
      rw [h2 i L hi]
      rfl) (fun L => h3 _ L) n 0 FU (by omega) (by rw [FU_eq]; exact hn)
theorem e_hasFull (hL : RLa P (X.1 220)) (w : okP P) (hR : wfR P) (hS : RS P V (X.1 220)) (hN : wfN P V) {r : Nat} (hr : r < ct P 4) : fX12_hasFull (nI r) X = some (b2 (decide (¬ P 14 r &&& s_showing P V = 0)), X) := by
  have hb := w.c4.2
  have hb0 := w.c0.2
  obtain ⟨-, ⟨m, em, hm, hc, e14⟩, -⟩ := hR r hr
  have hcl : (P 12 r).toNatClampNeg = m := by rw [em, nI_clamp (by omega)]
  have key : an (fun k => bt (s_showing P V) (P 13 (r * 6 + k)).toNatClampNeg) m = decide (¬ P 14 r &&& s_showing P V = 0) := by
    rw [Bool.eq_iff_iff, an_iff, decide_eq_true_eq, b_and0, e14]
    have hs := p_secs_bt (P := P) (r := r) m hm (fun k hk => by obtain ⟨c, e, h⟩ := hc k hk; exact ⟨c, e, by omega⟩)
    constructor
    · rintro ⟨k, hk, h⟩ q
      obtain ⟨c, e, h2⟩ := hc k hk
      rw [e, nI_clamp (by omega)] at h
      exact q c (by omega) ⟨(hs c (by omega)).mpr ⟨k, hk, e⟩, h⟩
    · intro q
      apply Classical.byContradiction
      intro q2
      refine q (fun i hi h => q2 ?_)
      obtain ⟨k, hk, e⟩ := (hs i hi).mp h.1
      exact ⟨k, hk, by rw [e, nI_clamp (by omega)]; exact h.2⟩
  rw [← key]
  unfold fX12_hasFull
  refine lz2_an _ (by omega) (fun i L hi => ?_) (fun i L hi => ?_) (fun b L => ?_)
  · obtain ⟨c, e, h2⟩ := hc i hi
    rw [ix_la, rA_n (by omega) (by decide), hL.r12 hr, em, it_e, if_neg (nI_ge hi (by omega)), it_e, if_pos rfl, ix_lm, ix_la, nI_add, rA_n (by omega) (by decide), hL.r13 hr (by omega), e, ca_s (e_showsFull hL w hS hN h2), it_e, nI_1, if_b0, nI_clamp (by omega)]
    cases bt (s_showing P V) c <;> rfl
  · rw [ix_la, rA_n (by omega) (by decide), hL.r12 hr, em, it_e, if_neg (nI_ge hi (by omega)), it_e, if_neg (by decide), nI_1]
  · rw [ix_la, rA_n (by omega) (by decide), hL.r12 hr, em, it_e, if_pos (nI_le (Nat.le_refl _) (by omega)), rz_b]
theorem e_whySet (hL : RLa P (X.1 220)) (w : okP P) (hR : wfR P) (hS : RS P V (X.1 220)) (hN : wfN P V) {r : Nat} (hr : r < ct P 4) : fX12_whySet (nI r) X = some (s_whyNotSet P V r, X) := by
  have hb := w.c4.2
  unfold fX12_whySet s_whyNotSet
  rw [ix_la, rA_n (by omega) (by decide), hS.how hr, it_e]
  by_cases c1 : V 1 r = 0
  · rw [if_pos c1, if_neg (by simp [c1]), ca_s (e_rivals hL w hR hr), ca_s (e_busy hL w hS), it_e]
    by_cases c2 : s_barring P r &&& s_notFree P V = 0
    · rw [if_pos c2, if_neg (by simp [c2]), ca_s (e_wrongPoints hL w hS hr), it_e]
      by_cases c3 : s_pointsAgainst P V r = 0
      · rw [if_pos c3, if_neg (by simp [c3]), ca_s (e_hasFull hL w hR hS hN hr), it_e, if_b0]
        by_cases c4 : P 14 r &&& s_showing P V = 0
        · rw [if_pos (by simp [c4]), if_neg (by simp [c4]), ix_la, rA_n (by omega) (by decide), hL.r12 hr, it_e]
          by_cases c5 : P 12 r = 0
          · rw [if_pos c5, if_pos c5]; rfl
          · rw [if_neg c5, if_neg c5]; rfl
        · rw [if_neg (by simp [c4]), if_pos c4]; rfl
      · rw [if_neg c3, if_pos c3]; rfl
    · rw [if_neg c2, if_pos c2]; rfl
  · rw [if_neg c1, if_pos c1]; rfl
theorem e_isMet (hL : RLa P (X.1 220)) (w : okP P) (hR : wfR P) (hcr : X.1 220 281 = V 0 6) (hT : rsT P V (X.1 220)) {r : Nat} (hr : r < ct P 4) : fX12_isMet (nI r) X = some (b2 (s_isApproached P V (P 11 r).toNatClampNeg), X) := by
  have hb := w.c4.2
  have hb3 := w.c3.2
  have hb6 := w.c6.2
  obtain ⟨⟨g, eg, hg⟩, -⟩ := hR r hr
  unfold fX12_isMet s_isApproached
  rw [ix_la, rA_n (by omega) (by decide), hL.r11 hr, eg, nI_clamp (by omega)]
  refine lz2_an _ (by omega) (fun i L hi => ?_) (fun i L hi => ?_) (fun b L => ?_)
  · rw [rA_l (by decide) (by decide), hL.n6 w, it_e, if_neg (nI_ge hi (by omega)), it_e, if_pos rfl, rA_l (by decide) (by decide), hcr, ca_s (e_bitOf _ (by omega)), it_e, nI_1, if_b0, b_tst (by omega)]
    simp only [b2_0]
    by_cases c1 : bt (V 0 6) i = false
    · rw [if_pos c1, ix_la, rA_n (by omega) (by decide), (hT i hi).1, ix_la, rA_n (by omega) (by decide), hL.g9 hg, it_e, if_cp]
      by_cases c2 : V 4 i = P 9 g
      · rw [if_pos c2, ix_la, rA_n (by omega) (by decide), hL.v20 hi, ix_la, rA_n (by omega) (by decide), hL.g10 hg, it_e]
        by_cases c3 : P 20 i = P 10 g <;> simp [c1, c2, c3]
      · simp [c2]
    · simp [c1]
  · rw [rA_l (by decide) (by decide), hL.n6 w, it_e, if_neg (nI_ge hi (by omega)), it_e, if_neg (by decide), nI_1]
  · rw [rA_l (by decide) (by decide), hL.n6 w, it_e, if_pos (nI_le (Nat.le_refl _) (by omega)), rz_b]
theorem e_whyThrow (hL : RLa P (X.1 220)) (wL : wfL P) (hS : RS P V (X.1 220)) (hN : wfN P V) {k : Nat} (hk : k < ct P 1) : fX12_whyThrow (nI k) X = some (s_whyThrow P V k, X) := by
  have w := wL.ok
  have hb := w.c1.2
  have hb0 := w.c0.2
  obtain ⟨c, ec, hc⟩ := wL.q k hk
  unfold fX12_whyThrow s_whyThrow
  rw [ix_la, rA_n (by omega) (by decide), hL.lie hk, ec, ca_s (e_showsFull hL w hS hN hc), it_e, b_tst (by omega), if_b0, if_b1]
  by_cases c1 : bt (s_showing P V) c = false
  · rw [if_pos c1, if_neg (by simp [c1])]
    have h1 := e_wanting (X := X) hL w k (by omega) 0 (Or.inl rfl)
    have h2 := e_wanting (X := X) hL w k (by omega) 1 (Or.inr rfl)
    rw [if_pos rfl] at h1
    rw [if_neg (by decide)] at h2
    rw [ca_s h1, ca_s h2, ca_s (e_busy hL w hS), it_e]
    by_cases c2 : (p_routesNeeding P (nI k) 0 ||| p_routesNeeding P (nI k) 1) &&& s_notFree P V = 0
    · rw [if_pos c2, if_neg (by simp [c2])]; rfl
    · rw [if_neg c2, if_pos c2]; rfl
  · rw [if_neg c1, if_pos (by simpa using c1)]; rfl
theorem e_signalFor (hL : RLa P (X.1 220)) (w : okP P) (hS : RS P V (X.1 220)) {t : Nat} (ht : t < ct P 6) : fX12_signalFor (nI t) X = some (p_signalAt P (V 4 t) (P 20 t), X) := by
  have hb := w.c3.2
  have hb6 := w.c6.2
  unfold fX12_signalFor p_signalAt
  refine lz1_ff _ (by omega) (fun i L hi => ?_) (fun L => ?_)
  · rw [rA_l (by decide) (by decide), hL.n3 w, it_e, if_neg (nI_ge hi (by omega)), ix_la, rA_n (by omega) (by decide), hL.g9 hi, ix_la, rA_n (by omega) (by decide), hS.at ht, it_e, if_cp, nI_1]
    by_cases c1 : P 9 i = V 4 t
    · rw [if_pos c1, ix_la, rA_n (by omega) (by decide), hL.g10 hi, ix_la, rA_n (by omega) (by decide), hL.v20 ht, it_e]
      by_cases c2 : P 10 i = P 20 t <;> simp [c1, c2, re_e]
    · simp [c1]
  · rw [rA_l (by decide) (by decide), hL.n3 w, it_e, if_pos (nI_le (Nat.le_refl _) (by omega))]
    rfl
end SH
