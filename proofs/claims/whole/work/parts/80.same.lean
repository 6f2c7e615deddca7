/-! two plans, two states, two sentences that tell the same -/
section SA
variable {P P' V V' Q Q' : m_V} {N N' : m_L} {S S' : Nat → Int32} {M M' : Nat → Int64}
def eqP (P P' : m_V) : Prop := (∀ k, k < 8 → P' 1 k = P 1 k) ∧ (∀ k, k < 12 → P' 3 k = P 3 k) ∧ (∀ k, k < 6 → P' 4 k = P 4 k) ∧ (∀ k, k < 16 → P' 5 k = P 5 k ∧ P' 6 k = P 6 k ∧ P' 7 k = P 7 k ∧ P' 8 k = P 8 k) ∧ (∀ k, k < 8 → P' 9 k = P 9 k ∧ P' 10 k = P 10 k) ∧ (∀ k, k < 10 → P' 11 k = P 11 k ∧ P' 12 k = P 12 k ∧ P' 14 k = P 14 k ∧ P' 15 k = P 15 k ∧ P' 16 k = P 16 k ∧ P' 17 k = P 17 k ∧ P' 18 k = P 18 k) ∧ (∀ k, k < 60 → P' 13 k = P 13 k) ∧ ∀ k, k < 5 → P' 19 k = P 19 k ∧ P' 20 k = P 20 k
def eqN (N N' : m_L) : Prop := ∀ k, k < 96 → N' 2 k = N 2 k
def eqQ (Q Q' : m_V) : Prop := Q' 0 0 = Q 0 0 ∧ Q' 0 2 = Q 0 2 ∧ ∀ i, i < 40 → Q' 1 i = Q 1 i ∧ Q' 2 i = Q 2 i ∧ Q' 3 i = Q 3 i
theorem eqP.refl : eqP P P := ⟨fun _ _ => rfl, fun _ _ => rfl, fun _ _ => rfl, fun _ _ => ⟨rfl, rfl, rfl, rfl⟩, fun _ _ => ⟨rfl, rfl⟩, fun _ _ => ⟨rfl, rfl, rfl, rfl, rfl, rfl, rfl⟩, fun _ _ => rfl, fun _ _ => ⟨rfl, rfl⟩⟩
theorem eqN.refl : eqN N N := fun _ _ => rfl
theorem eqQ.refl : eqQ Q Q := ⟨rfl, rfl, fun _ _ => ⟨rfl, rfl, rfl⟩⟩
theorem eqP.copy (O U : m_V) : eqP O (trim 21 (p_copy O U)) := by
  refine ⟨fun k h => ?_, fun k h => ?_, fun k h => ?_, fun k h => ⟨?_, ?_, ?_, ?_⟩, fun k h => ⟨?_, ?_⟩, fun k h => ⟨?_, ?_, ?_, ?_, ?_, ?_, ?_⟩, fun k h => ?_, fun k h => ⟨?_, ?_⟩⟩ <;> exact if_pos h
theorem eqP.c (h : eqP P P') {k : Nat} (hk : k < 8) : ct P' k = ct P k := by unfold ct; rw [h.1 k hk]
theorem eqP.ok (h : eqP P P') (w : okP P) : okP P' := by
  unfold okP
  rw [h.c (k := 0) (by decide), h.c (k := 1) (by decide), h.c (k := 2) (by decide), h.c (k := 3) (by decide), h.c (k := 4) (by decide), h.c (k := 6) (by decide), h.1 0 (by decide), h.1 1 (by decide), h.1 2 (by decide), h.1 3 (by decide), h.1 4 (by decide), h.1 6 (by decide)]
  exact w
theorem eqP.secs (h : eqP P P') {r m : Nat} (hr : r < 10) (hm : m ≤ 6) : p_secs P' r m = p_secs P r m := lo_congr m (fun k a hk => by rw [h.2.2.2.2.2.2.1 (r * 6 + k) (by omega)])
theorem eqP.conf (h : eqP P P') {r q : Nat} (hr : r < 10) (hq : q < 10) : p_conflict P' r q = p_conflict P r q := by
  unfold p_conflict
  obtain ⟨a1, -, a2, a3, a4, -⟩ := h.2.2.2.2.2.1 r hr
  obtain ⟨b1, -, b2, b3, b4, -⟩ := h.2.2.2.2.2.1 q hq
  rw [a1, a2, a3, a4, b1, b2, b3, b4]
theorem eqP.wfC (h : eqP P P') (w : okP P) (hC : wfC P) : wfC P' := fun r hr => by
  have c4 := w.c4.2
  rw [h.c (k := 4) (by decide)] at hr ⊢
  rw [(h.2.2.2.2.2.1 r (by omega)).2.2.2.2.2.2, hC r hr]
  exact bo_congr _ (fun q hq => by rw [h.conf (by omega) (by omega)])
theorem eqP.wfL (h : eqP P P') (hL : wfL P) : wfL P' := by
  have w := hL.ok
  have c0 := w.c0.2
  have c1 := w.c1.2
  have c2 := w.c2.2
  have c3 := w.c3.2
  have c4 := w.c4.2
  have c6 := w.c6.2
  obtain ⟨e1, e3, e4, e5, e9, e11, e13, e19⟩ := id h
  refine ⟨h.ok w, by rw [e1 5 (by decide)]; exact hL.2.1, by rw [e1 7 (by decide)]; exact hL.2.2.1, fun k hk => ?_, fun k hk => ?_, fun k hk => ?_, fun k hk => ?_, fun r hr => ?_, fun r q hr hq => ?_, fun t ht => ?_⟩
  · rw [h.c (k := 0) (by decide)] at hk
    rw [e3 k (by omega)]
    exact hL.s k hk
  · rw [h.c (k := 1) (by decide)] at hk
    rw [e4 k (by omega), h.c (k := 0) (by decide)]
    exact hL.q k hk
  · rw [h.c (k := 2) (by decide)] at hk
    obtain ⟨a1, a2, a3, a4⟩ := e5 k (by omega)
    rw [a1, a2, a3, a4, h.c (k := 0) (by decide), h.c (k := 1) (by decide)]
    exact hL.t k hk
  · rw [h.c (k := 3) (by decide)] at hk
    obtain ⟨a1, a2⟩ := e9 k (by omega)
    rw [a1, a2, h.c (k := 0) (by decide)]
    obtain ⟨g1, g2, g3⟩ := hL.g k hk
    refine ⟨g1, g2, fun g' hg' e e' => ?_⟩
    rw [h.c (k := 3) (by decide)] at hg'
    obtain ⟨b1, b2⟩ := e9 g' (by omega)
    rw [b1] at e
    rw [b2] at e'
    exact g3 g' hg' e e'
  · rw [h.c (k := 4) (by decide)] at hr
    obtain ⟨a1, a2, a3, a4, a5, a6, -⟩ := e11 r (by omega)
    obtain ⟨g, ⟨m, m1, m2, m3, m4⟩, rest⟩ := hL.r r hr
    rw [a1, a2, a3, a4, a5, a6, h.c (k := 3) (by decide), h.c (k := 0) (by decide), h.c (k := 1) (by decide), h.c (k := 4) (by decide)]
    exact ⟨g, ⟨m, m1, m2, fun k hk => by rw [e13 (r * 6 + k) (by omega)]; exact m3 k hk, by rw [h.secs (by omega) m2]; exact m4⟩, rest⟩
  · rw [h.c (k := 4) (by decide)] at hr hq
    rw [(e11 r (by omega)).2.2.2.2.2.1, (e11 q (by omega)).2.2.2.2.2.1]
    exact hL.k r q hr hq
  · rw [h.c (k := 6) (by decide)] at ht
    obtain ⟨a1, a2⟩ := e19 t (by omega)
    rw [a1, a2, h.c (k := 0) (by decide)]
    exact hL.v t ht
theorem eqP.RLa (h : eqP P P') (w : okP P) (hR : wfR P) (e : ∀ k, k < 469 → S' k = S k) (hS : RLa P S) : RLa P' S' := by
  have c0 := w.c0.2
  have c1 := w.c1.2
  have c2 := w.c2.2
  have c3 := w.c3.2
  have c4 := w.c4.2
  have c6 := w.c6.2
  obtain ⟨e1, e3, e4, e5, e9, e11, e13, e19⟩ := id h
  refine ⟨fun k hk => ?_, fun k hk => ?_, fun k hk => ?_, fun k hk => ?_, fun k hk => ?_, fun r hr => ?_, fun t ht => ?_⟩
  · rw [e k (by omega), e1 k hk]; exact hS.1 k hk
  · rw [h.c (k := 0) (by decide)] at hk
    rw [e _ (by omega), e3 k (by omega)]; exact hS.len hk
  · rw [h.c (k := 1) (by decide)] at hk
    rw [e _ (by omega), e4 k (by omega)]; exact hS.lie hk
  · rw [h.c (k := 2) (by decide)] at hk
    obtain ⟨a1, a2, a3, a4⟩ := e5 k (by omega)
    rw [e _ (by omega), e _ (by omega), e _ (by omega), e _ (by omega), a1, a2, a3, a4]; exact hS.t k hk
  · rw [h.c (k := 3) (by decide)] at hk
    obtain ⟨a1, a2⟩ := e9 k (by omega)
    rw [e _ (by omega), e _ (by omega), a1, a2]; exact ⟨hS.g9 hk, hS.g10 hk⟩
  · rw [h.c (k := 4) (by decide)] at hr
    obtain ⟨a1, a2, a3, a4, a5, a6, -⟩ := e11 r (by omega)
    obtain ⟨b1, b2, b3, b4, b5, b6⟩ := hS.r r hr
    obtain ⟨-, ⟨m, m1, m2, -⟩, -⟩ := hR r hr
    have hm : (P 12 r).toNatClampNeg = m := by rw [m1, nI_clamp (by omega)]
    rw [e _ (by omega), e _ (by omega), e _ (by omega), e _ (by omega), e _ (by omega), a1, a2, a4, a5, a6]
    exact ⟨b1, b2, fun k hk => by rw [e _ (by omega), e13 _ (by omega)]; exact b3 k hk, b4, b5, b6⟩
  · rw [h.c (k := 6) (by decide)] at ht
    obtain ⟨a1, a2⟩ := e19 t (by omega)
    rw [e _ (by omega), e _ (by omega), a1, a2]; exact ⟨hS.v19 ht, hS.v20 ht⟩
theorem eqP.wfN (h : eqP P P') (w : okP P) (hN : wfN P V) : wfN P' V := by
  have c4 := w.c4.2
  obtain ⟨a, b, d⟩ := hN
  unfold wfA at a
  refine ⟨?_, fun r hr => ?_, fun t ht => ?_⟩
  · unfold wfA
    rw [h.c (k := 1) (by decide), h.c (k := 0) (by decide), h.c (k := 6) (by decide)]
    exact a
  · rw [h.c (k := 4) (by decide)] at hr
    rw [(h.2.2.2.2.2.1 r (by omega)).2.1]
    exact b r hr
  · rw [h.c (k := 6) (by decide)] at ht
    rw [h.c (k := 0) (by decide)]
    exact d t ht
theorem eqP.m_ (h : eqP P P') (hM : wfM P V) : wfM P' V := by
  unfold wfM
  rw [h.c (k := 6) (by decide)]
  exact hM
theorem eqP.RW (h : eqP P P') (w : okP P) (e : ∀ k, k < 469 → S' k = S k) (hS : RW P V S) : RW P' V S' := by
  have c0 := w.c0.2
  have c4 := w.c4.2
  have c6 := w.c6.2
  obtain ⟨hS, h7⟩ := hS
  refine ⟨⟨?_, ?_, ?_, ?_, fun k hk => ?_, fun r hr => ?_, fun t ht => ?_⟩, ?_⟩
  · rw [e _ (by decide)]; exact hS.tick
  · rw [e _ (by decide)]; exact hS.met
  · rw [e _ (by decide)]; exact hS.rev
  · rw [e _ (by decide)]; exact hS.cr
  · rw [h.c (k := 0) (by decide)] at hk
    rw [e _ (by omega)]; exact hS.fl hk
  · rw [h.c (k := 4) (by decide)] at hr
    rw [e _ (by omega), e _ (by omega), e _ (by omega)]; exact hS.r r hr
  · rw [h.c (k := 6) (by decide)] at ht
    rw [e _ (by omega), e _ (by omega), e _ (by omega)]; exact hS.t t ht
  · rw [e _ (by decide)]; exact h7
theorem eqP.rN1 (h : eqP P P') {s o b : Nat} (hs : s < 8) (hc : ct P s ≤ b) (h1 : s * 12 + b ≤ 96) (h2 : o + b ≤ 41) (eN : eqN N N') (eM : ∀ k, k < 41 → M' k = M k) (hN : rN1 P N M s o) : rN1 P' N' M' s o := fun i hi => by
  rw [h.c hs] at hi
  rw [eN _ (by omega), eM _ (by omega)]
  exact hN i hi
theorem eqP.rN (h : eqP P P') (w : okP P) (eN : eqN N N') (eM : ∀ k, k < 41 → M' k = M k) (hN : rN P N M) : rN P' N' M' :=
  ⟨h.rN1 (by decide) w.c0.2 (by decide) (by decide) eN eM hN.1, h.rN1 (by decide) w.c1.2 (by decide) (by decide) eN eM hN.2.1, h.rN1 (by decide) w.c3.2 (by decide) (by decide) eN eM hN.2.2.1, h.rN1 (by decide) w.c4.2 (by decide) (by decide) eN eM hN.2.2.2.1, h.rN1 (by decide) w.c6.2 (by decide) (by decide) eN eM hN.2.2.2.2⟩
theorem eqP.q_ (h : eqP P P') (eQ : eqQ Q Q') (e : ∀ k, k < 469 → S' k = S k) (hQ : rQ P Q S) : rQ P' Q' S' := by
  obtain ⟨q0, q2, qr⟩ := eQ
  unfold rQ
  rw [q0, q2, e _ (by decide)]
  rcases hQ with a | ⟨a, m, m1, m2, m3, m4, m5, d, d0, dm, dd⟩
  · exact Or.inl a
  · refine Or.inr ⟨a, m, m1, m2, m3, m4, fun i hi => ?_, d, d0, dm, fun i hi => ?_⟩
    · obtain ⟨a1, a2, a3⟩ := qr i (by omega)
      rw [a1, a2, a3, e _ (by omega), e _ (by omega), e _ (by omega)]
      unfold rQ1
      rw [h.c (k := 0) (by decide), h.c (k := 4) (by decide)]
      exact m5 i hi
    · rw [(qr i (by omega)).1]
      exact dd i hi
theorem Wd.congr (hW : Wd P N V Q S M) (eP : eqP P P') (eN : eqN N N') (eV : eqV V V') (eQ : eqQ Q Q') (eS : ∀ k, k < 469 → S' k = S k) (eM : ∀ k, k < 41 → M' k = M k) : Wd P' N' V' Q' S' M' := by
  have w := hW.ok
  have w' := eP.ok w
  exact ⟨eP.wfL hW.l, eP.wfC w hW.c, eP.RLa w hW.l.r eS hW.r, eP.rN w eN eM hW.n, eV.wfN w' (eP.wfN w hW.v), eV.RW w' (eP.RW w eS hW.s), eV.wfM w' (eP.m_ hW.m), eP.q_ eQ eS hW.q⟩
end SA
