/-! the history, both -/
section HP
variable {P V V' : m_V} {S : Nat → Int32} {X X' : X_}
/-- two states of which the rows that count are alike -/
def eqV (V V' : m_V) : Prop := (∀ k, 1 ≤ k → k ≤ 7 → V' 0 k = V 0 k) ∧ (∀ r, r < 10 → V' 1 r = V 1 r ∧ V' 2 r = V 2 r ∧ V' 3 r = V 3 r) ∧ ∀ t, t < 5 → V' 4 t = V 4 t ∧ V' 5 t = V 5 t ∧ V' 6 t = V 6 t
theorem eqV.refl : eqV V V := ⟨fun _ _ _ => rfl, fun _ _ => ⟨rfl, rfl, rfl⟩, fun _ _ => ⟨rfl, rfl, rfl⟩⟩
theorem eqV.trim : eqV V (trim 7 V) := ⟨fun _ _ _ => rfl, fun _ _ => ⟨rfl, rfl, rfl⟩, fun _ _ => ⟨rfl, rfl, rfl⟩⟩
theorem eqV.trans {W : m_V} (h : eqV V V') (h2 : eqV V' W) : eqV V W :=
  ⟨fun k a b => (h2.1 k a b).trans (h.1 k a b), fun r hr => ⟨(h2.2.1 r hr).1.trans (h.2.1 r hr).1, (h2.2.1 r hr).2.1.trans (h.2.1 r hr).2.1, (h2.2.1 r hr).2.2.trans (h.2.1 r hr).2.2⟩, fun t ht => ⟨(h2.2.2 t ht).1.trans (h.2.2 t ht).1, (h2.2.2 t ht).2.1.trans (h.2.2 t ht).2.1, (h2.2.2 t ht).2.2.trans (h.2.2 t ht).2.2⟩⟩
theorem eqV.copy (U W : m_V) : eqV U (s_copy U W) := by
  refine ⟨fun k h1 h2 => ?_, fun r hr => ?_, fun t ht => ?_⟩
  · rcases (show k = 1 ∨ k = 2 ∨ k = 3 ∨ k = 4 ∨ k = 5 ∨ k = 6 ∨ k = 7 by omega) with rfl | rfl | rfl | rfl | rfl | rfl | rfl <;> rfl
  · refine ⟨?_, ?_, ?_⟩
    · show cpy 10 (U 1) (W 1) r = _
      exact if_pos hr
    · show cpy 10 (U 2) (W 2) r = _
      exact if_pos hr
    · show cpy 10 (U 3) (W 3) r = _
      exact if_pos hr
  · refine ⟨?_, ?_, ?_⟩
    · show cpy 5 (U 4) (W 4) t = _
      exact if_pos ht
    · show cpy 5 (U 5) (W 5) t = _
      exact if_pos ht
    · show cpy 5 (U 6) (W 6) t = _
      exact if_pos ht
theorem eqV.wfN (h : eqV V V') (w : okP P) (hN : wfN P V) : wfN P V' := by
  have h4 := w.c4.2
  have h6 := w.c6.2
  obtain ⟨⟨a1, a2, a3, a4, a5, a6⟩, b, d⟩ := hN
  have e := h.1
  refine ⟨⟨?_, ?_, ?_, fun i hi => ?_, ?_, ?_⟩, fun r hr => ?_, fun t ht => ?_⟩
  · rw [e 3 (by omega) (by omega)]; exact a1
  · rw [e 4 (by omega) (by omega)]; exact a2
  · rw [e 5 (by omega) (by omega)]; exact a3
  · rw [e 4 (by omega) (by omega), e 5 (by omega) (by omega)]; exact a4 i hi
  · rw [e 6 (by omega) (by omega)]; exact a5
  · rw [e 7 (by omega) (by omega)]; exact a6
  · obtain ⟨q1, q2, -⟩ := h.2.1 r (by omega)
    rw [q1, q2]; exact b r hr
  · rw [(h.2.2 t (by omega)).1]; exact d t ht
theorem eqV.wfM (h : eqV V V') (w : okP P) (hM : wfM P V) : wfM P V' := by
  have h6 := w.c6.2
  obtain ⟨n, e, hn, ht⟩ := hM
  refine ⟨n, by rw [h.1 1 (by omega) (by omega)]; exact e, hn, fun t q => ?_⟩
  rw [(h.2.2 t (by omega)).2.2]
  exact ht t q
theorem eqV.fail (h : eqV V V') (k : Int32) : s_failing V' k = s_failing V k := by
  unfold s_failing
  rw [h.1 4 (by omega) (by omega), h.1 5 (by omega) (by omega)]
theorem eqV.RW (h : eqV V V') (w : okP P) (hS : RW P V S) : RW P V' S := by
  have h4 := w.c4.2
  have h6 := w.c6.2
  obtain ⟨hS, h7⟩ := hS
  have e := h.1
  refine ⟨⟨?_, ?_, ?_, ?_, fun k hk => ?_, fun r hr => ?_, fun t ht => ?_⟩, ?_⟩
  · rw [e 1 (by omega) (by omega)]; exact hS.tick
  · rw [e 2 (by omega) (by omega)]; exact hS.met
  · rw [e 3 (by omega) (by omega)]; exact hS.rev
  · rw [e 6 (by omega) (by omega)]; exact hS.cr
  · rw [h.fail]; exact hS.fl hk
  · obtain ⟨q1, q2, q3⟩ := h.2.1 r (by omega)
    rw [q1, q2, q3]; exact hS.r r hr
  · obtain ⟨q1, q2, q3⟩ := h.2.2 t (by omega)
    rw [q1, q2, q3]; exact hS.t t ht
  · rw [e 7 (by omega) (by omega)]; exact h7
def rot (g : Nat → Nat) : Nat → Nat := fun k => if k < 8 then g (k + 1) else if k = 8 then g 0 else g k
/-- the History's row as it was noted, not kept -/
def hsame (X X' : X_) (h : Nat) : Prop := X'.2.2 = X.2.2 ∧ X'.1 61 1 = X.1 61 1 ∧ ∀ g, g < 9 → ¬ g = X.2.2 h → bV X' (63 + 7 * g) = bV X (63 + 7 * g)
def hpush (X X' : X_) (h : Nat) : Prop := X'.2.2 = (if h = 8 then rot X.2.2 else X.2.2) ∧ X'.1 61 1 = nI (if h = 8 then 8 else h + 1) ∧ (∀ g, g < 9 → ¬ g = X.2.2 h → bV X' (63 + 7 * g) = bV X (63 + 7 * g)) ∧ eqV (bV X 47) (bV X' (63 + 7 * X.2.2 h))
/-- the History as it is told in I_h, at a size -/
def I_hn (X : X_) (h : Nat) : Prop := h ≤ 8 ∧ X.1 61 1 = nI h ∧ X.1 218 23 = nI h ∧ (∀ k, k < 9 → X.2.2 k < 9) ∧ (∀ i j, i < 9 → j < 9 → X.2.2 i = X.2.2 j → i = j) ∧ ∀ i, i < h → wfN (bP X 4) (bV X (63 + 7 * X.2.2 i)) ∧ wfM (bP X 4) (bV X (63 + 7 * X.2.2 i)) ∧ RW (bP X 4) (bV X (63 + 7 * X.2.2 i)) (fun k => X.1 225 (62 * i + (k - 226)))
theorem I_hn.same {h : Nat} (H : I_hn X h) (hs : hsame X X' h) (hP : bP X' 4 = bP X 4) (h23 : X'.1 218 23 = X.1 218 23) (h225 : X'.1 225 = X.1 225) : I_h X' := by
  obtain ⟨q1, q2, q3, q4, q5, q6⟩ := H
  obtain ⟨a1, a2, a3⟩ := hs
  refine ⟨h, q1, by rw [a2]; exact q2, by rw [h23]; exact q3, by rw [a1]; exact q4, by rw [a1]; exact q5, fun i hi => ?_⟩
  rw [hP, a1, a3 _ (q4 i (by omega)) (fun e => by have := q5 i h (by omega) (by omega) e; omega), h225]
  exact q6 i hi
theorem und_lt {u i k : Nat} {U S : Nat → Int32} (hu : ¬ u = 8) (hi : i < u) (hk : k < 62) : undR u U S (62 * i + k) = U (62 * i + k) := by
  unfold undR
  rw [if_neg hu]
  exact cpN_out (by omega)
theorem und_at {u k : Nat} {U S : Nat → Int32} (hu : ¬ u = 8) (hk : k < 62) : undR u U S (62 * u + k) = S (226 + k) := by
  unfold undR
  rw [if_neg hu]
  exact cpN_in hk
theorem und_8 {i k : Nat} {U S : Nat → Int32} (hi : i < 7) (hk : k < 62) : undR 8 U S (62 * i + k) = U (62 * (i + 1) + k) := by
  unfold undR
  rw [if_pos rfl, cpN_out (by omega)]
  have := cpN_in (d := 0) (n := 434) (j := 62 * i + k) (g := fun i => U (i + 62)) (f := U) (by omega)
  rw [Nat.zero_add] at this
  rw [this]
  show U (62 * i + k + 62) = _
  rw [show 62 * i + k + 62 = 62 * (i + 1) + k by omega]
theorem und_87 {k : Nat} {U S : Nat → Int32} (hk : k < 62) : undR 8 U S (62 * 7 + k) = S (226 + k) := by
  unfold undR
  rw [if_pos rfl]
  exact cpN_in hk
theorem I_hn.push {h : Nat} (H : I_hn X h) (w : okP (bP X 4)) (hN : wfN (bP X 4) (bV X 47)) (hM : wfM (bP X 4) (bV X 47)) (hW : RW (bP X 4) (bV X 47) (X.1 220)) (hs : hpush X X' h) (hP : bP X' 4 = bP X 4) (h23 : X'.1 218 23 = nI (if h = 8 then 8 else h + 1)) (h225 : X'.1 225 = undR h (X.1 225) (X.1 220)) : I_h X' := by
  obtain ⟨q1, q2, q3, q4, q5, q6⟩ := H
  obtain ⟨a1, a2, a3, a4⟩ := hs
  have same : ∀ g, g < 9 → ¬ g = X.2.2 h → ∀ (i j : Nat) (U : Nat → Int32), (∀ k, k < 62 → U (62 * j + k) = X.1 225 (62 * i + k)) → X.2.2 i = g → i < h → wfN (bP X 4) (bV X' (63 + 7 * g)) ∧ wfM (bP X 4) (bV X' (63 + 7 * g)) ∧ RW (bP X 4) (bV X' (63 + 7 * g)) (fun k => U (62 * j + (k - 226))) := by
    intro g hg hne i j U hU hgi hi
    rw [a3 g hg hne, ← hgi]
    obtain ⟨r1, r2, r3⟩ := q6 i hi
    refine ⟨r1, r2, r3.same w (fun k k1 k2 => hU (k - 226) (by omega))⟩
  have last : ∀ (j : Nat) (U : Nat → Int32), (∀ k, k < 62 → U (62 * j + k) = X.1 220 (226 + k)) → wfN (bP X 4) (bV X' (63 + 7 * X.2.2 h)) ∧ wfM (bP X 4) (bV X' (63 + 7 * X.2.2 h)) ∧ RW (bP X 4) (bV X' (63 + 7 * X.2.2 h)) (fun k => U (62 * j + (k - 226))) := by
    intro j U hU
    refine ⟨a4.wfN w hN, a4.wfM w hM, (a4.RW w hW).same w (fun k k1 k2 => ?_)⟩
    rw [hU (k - 226) (by omega), show 226 + (k - 226) = k by omega]
  by_cases c : h = 8
  · subst c
    rw [if_pos rfl] at a1 a2 h23
    refine ⟨8, Nat.le_refl _, a2, h23, ?_, ?_, fun i hi => ?_⟩
    · intro k hk
      rw [a1]
      unfold rot
      by_cases c1 : k < 8
      · rw [if_pos c1]; exact q4 _ (by omega)
      · rw [if_neg c1, if_pos (by omega)]; exact q4 0 (by omega)
    · intro i j hi hj e
      rw [a1] at e
      unfold rot at e
      by_cases c1 : i < 8
      · rw [if_pos c1] at e
        by_cases c2 : j < 8
        · rw [if_pos c2] at e
          have := q5 _ _ (by omega) (by omega) e
          omega
        · rw [if_neg c2, if_pos (by omega)] at e
          have := q5 _ _ (by omega) (by omega) e
          omega
      · rw [if_neg c1, if_pos (by omega)] at e
        by_cases c2 : j < 8
        · rw [if_pos c2] at e
          have := q5 _ _ (by omega) (by omega) e
          omega
        · omega
    · have er : X'.2.2 i = X.2.2 (i + 1) := by
        rw [a1]
        exact if_pos hi
      rw [hP, er, h225]
      by_cases c1 : i = 7
      · subst c1
        exact last 7 _ (fun k hk => und_87 hk)
      · refine same _ (q4 _ (by omega)) (fun e => ?_) (i + 1) i _ (fun k hk => und_8 (by omega) hk) rfl (by omega)
        have := q5 _ _ (by omega) (by omega) e
        omega
  · rw [if_neg c] at a1 a2 h23
    refine ⟨h + 1, by omega, a2, h23, by rw [a1]; exact q4, by rw [a1]; exact q5, fun i hi => ?_⟩
    rw [hP, a1, h225]
    by_cases c1 : i = h
    · subst c1
      exact last i _ (fun k hk => und_at c hk)
    · refine same _ (q4 _ (by omega)) (fun e => ?_) i i _ (fun k hk => und_lt c (by omega) hk) rfl (by omega)
      have := q5 _ _ (by omega) (by omega) e
      omega
/-- noting -/
theorem k_note {h : Nat} (H : I_hn X h) : ∃ X', fX3_note X = some ((), X') ∧ (∀ a, ¬ (63 ≤ a ∧ a < 126) → X'.1 a = X.1 a) ∧ X'.2.1 = X.2.1 ∧ hsame X X' h ∧ eqV (bV X 47) (bV X' (63 + 7 * X.2.2 h)) := by
  obtain ⟨q1, q2, q3, q4, q5, q6⟩ := H
  have hg := q4 h (by omega)
  unfold fX3_note
  rw [gI_e, q2]
  have e1 : rH (nI h) (fun g8 => (ca (fX8_copyFrom (63 + 7 * g8) 47) fun _ => (re ()))) X = (ca (fX8_copyFrom (63 + 7 * X.2.2 h) 47) fun _ => (re ())) X := by
    unfold rH
    rw [if_neg (nI_in (N := 9) (by omega) (by decide)), nI_clamp (by omega), if_pos hg]
  have e2 : fX8_copyFrom (63 + 7 * X.2.2 h) 47 X = some ((), bk X (63 + 7 * X.2.2 h) 7 (s_copy (bV X 47) (bV X (63 + 7 * X.2.2 h))) (bVJ X (63 + 7 * X.2.2 h))) := gd_t (Or.inl (by omega))
  rw [e1, ca_s e2]
  refine ⟨_, rfl, fun a ha => bk_row (by omega), ?_, ⟨rfl, by rw [bk_row (by omega)], fun g hg' hne => bB_bk' (by omega)⟩, ?_⟩
  · funext a
    by_cases c : 63 + 7 * X.2.2 h ≤ a ∧ a < 63 + 7 * X.2.2 h + 7
    · obtain ⟨j, rfl⟩ : ∃ j, a = 63 + 7 * X.2.2 h + j := ⟨a - (63 + 7 * X.2.2 h), by omega⟩
      rw [bk_inJ (by omega)]
      funext k
      exact if_pos (show j < 7 by omega)
    · exact bk_rowJ c
  · show eqV _ (bB 7 _ _)
    rw [bB_bk]
    exact (eqV.copy _ _).trans eqV.trim
/-- keeping what was noted -/
theorem k_keep {h : Nat} (h8 : h ≤ 8) (h61 : X.1 61 1 = nI h) (hg : ∀ k, k < 9 → X.2.2 k < 9) : ∃ X', fX3_keepNoted X = some ((), X') ∧ (∀ a, ¬ a = 61 → X'.1 a = X.1 a) ∧ X'.2.1 = X.2.1 ∧ X'.1 61 1 = nI (if h = 8 then 8 else h + 1) ∧ X'.2.2 = (if h = 8 then rot X.2.2 else X.2.2) := by
  unfold fX3_keepNoted
  rw [gI_e, h61]
  by_cases c : h = 8
  · subst c
    let G : Nat → Nat → Nat := fun i k => if k < i then X.2.2 (k + 1) else X.2.2 k
    have hG : ∀ i k, k < 9 → i ≤ 8 → G i k < 9 := by
      intro i k hk hi
      show (if k < i then X.2.2 (k + 1) else X.2.2 k) < 9
      by_cases c1 : k < i
      · rw [if_pos c1]; exact hg _ (by omega)
      · rw [if_neg c1]; exact hg k hk
    have h0 : (fun i => ((X.1, X.2.1, G i) : X_)) 0 = X := by
      refine Prod.ext rfl (Prod.ext rfl (funext fun k => ?_))
      show (if k < 0 then X.2.2 (k + 1) else X.2.2 k) = _
      rw [if_neg (by omega)]
    have run : (lz1 (fun L29 x2 => (it (8 ≤ x2) (wH 8 (X.2.2 0) (re ())) (rH (x2 + 1) fun g47 => (wH x2 g47 (L29 (x2 + 1)))))) FU 0) X = some ((), (X.1, X.2.1, rot X.2.2)) := by
      conv => lhs; rw [← h0]
      refine lz1_X (n := 8) (fun i => ((X.1, X.2.1, G i) : X_)) (by decide) (fun i L hi => ?_) (fun L => ?_)
      · rw [it_f (nL_ge hi (by decide)), nI_1]
        have hh := hG i (i + 1) (by omega) (by omega)
        unfold rH
        rw [if_neg (nI_in (N := 9) (by omega) (by decide)), nI_clamp (by omega), if_pos hh]
        unfold wH
        dsimp only
        rw [if_neg (nI_in (N := 9) (by omega) (by decide)), nI_clamp (by omega)]
        refine congrArg (L (nI (i + 1))) (Prod.ext rfl (Prod.ext rfl (funext fun k => ?_)))
        show (if k = i then (if i + 1 < i then X.2.2 (i + 1 + 1) else X.2.2 (i + 1)) else if k < i then X.2.2 (k + 1) else X.2.2 k) = if k < i + 1 then X.2.2 (k + 1) else X.2.2 k
        rw [if_neg (show ¬ i + 1 < i by omega)]
        by_cases c1 : k = i
        · subst c1
          rw [if_pos rfl, if_pos (by omega)]
        · rw [if_neg c1]
          by_cases c2 : k < i
          · rw [if_pos c2, if_pos (by omega)]
          · rw [if_neg c2, if_neg (by omega)]
      · rw [it_t (nL_le (by decide))]
        unfold wH
        rw [if_neg (show ¬ ((8 : Int32) < 0 ∨ 9 ≤ (8 : Int32).toNatClampNeg) by decide)]
        refine congrArg (fun g => some ((), ((X.1, X.2.1, g) : X_))) (funext fun k => ?_)
        show (if k = 8 then X.2.2 0 else if k < 8 then X.2.2 (k + 1) else X.2.2 k) = rot X.2.2 k
        unfold rot
        by_cases c1 : k = 8
        · subst c1; rw [if_pos rfl, if_neg (by omega), if_pos rfl]
        · rw [if_neg c1]
          by_cases c2 : k < 8
          · rw [if_pos c2, if_pos c2]
          · rw [if_neg c2, if_neg c2, if_neg c1]
    rw [it_t (show (8 : Int32) ≤ nI 8 from nI_le (b := 8) (Nat.le_refl _) (by decide))]
    have hr0 : ∀ F : Nat → RM Unit, rH 0 F X = F (X.2.2 0) X := by
      intro F
      unfold rH
      rw [if_neg (show ¬ ((0 : Int32) < 0 ∨ 9 ≤ (0 : Int32).toNatClampNeg) by decide)]
      exact if_pos (hg 0 (by omega))
    rw [hr0, run]
    exact ⟨_, rfl, fun _ _ => rfl, rfl, h61, rfl⟩
  · rw [it_f (show ¬ (8 : Int32) ≤ nI h from nI_ge (b := 8) (by omega) (by decide)), gI_e, h61, nI_1, if_neg c, if_neg c]
    exact ⟨_, rfl, fun a ha => sI_row ha, rfl, sI_eq, rfl⟩
end HP
