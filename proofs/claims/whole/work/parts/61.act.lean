/-! acts -/
section AC
variable {P V : m_V} {X : X_} {S : Nat → Int32}
theorem RW.setV (w : okP P) (h : RW P V S) {r : Nat} (hr : r < ct P 4) (h0 : s_whyNotSet P V r = 0) : RW P (s_setV P V r) (upS S (229 + r) 1) := by
  have h4 := w.c4.2
  have hf : V 1 r = 0 := by
    apply Classical.byContradiction
    intro c
    rw [s_whyNotSet, if_pos c] at h0
    exact absurd h0 (by decide)
  rw [s_setV, if_pos h0]
  exact h.of (h.1.set w hr hf) (u2_ne (by omega)) (upS_ne (by omega))
theorem wfN.setV (h : wfN P V) (r : Nat) : wfN P (s_setV P V r) := by
  unfold s_setV
  by_cases c : s_whyNotSet P V r = 0
  · rw [if_pos c]
    refine h.how (fun _ e => ?_) (by decide)
    unfold s_whyNotSet at c
    rw [if_pos e] at c
    repeat (first | (split at c) | (exact absurd c (by decide)))
  · rw [if_neg c]; exact h
theorem e_putsBack (hL : RLa P S) (wL : wfL P) (h : RW P V S) {r : Nat} (hr : r < ct P 4) (h1 : V 1 r = 1) : ∃ S', fX12_putsBack (nI r) (rowS X S) = some ((), rowS X S') ∧ RW P (s_backV P V r) S' ∧ fr S S' := by
  have w := wL.ok
  have h4 := w.c4.2
  have h6 := w.c6.2
  have hm : ∀ v : Int32, fX12_isMet (nI r) (rowS X (upS S (229 + r) v)) = some (b2 (s_isApproached P V (P 11 r).toNatClampNeg), rowS X (upS S (229 + r) v)) := by
    intro v
    have hL2 : RLa P (upS S (229 + r) v) := hL.fr wL (fr.refl.u (by omega) (by omega))
    refine e_isMet hL2.ro w wL.r ?_ ?_ hr
    · rw [rowS_220, upS_ne (by omega)]; exact h.1.cr
    · rw [rowS_220]
      intro t ht
      rw [upS_ne (by omega), upS_ne (by omega), upS_ne (by omega)]
      exact h.1.t t ht
  have hm0 : fX12_isMet (nI r) (rowS X S) = some (b2 (s_isApproached P V (P 11 r).toNatClampNeg), rowS X S) := e_isMet hL.ro w wL.r h.1.ro.cr h.1.ro.t hr
  unfold fX12_putsBack s_backV
  rw [ca_s hm0, jo2_e, it_e, if_b0, if_pos h1]
  have f2 : ∀ u v : Int32, fr S (upS (upS S (229 + r) u) (239 + r) v) := fun u v => (fr.refl.u (by omega) (by omega)).u (by omega) (by omega)
  by_cases c : s_isApproached P V (P 11 r).toNatClampNeg = true
  · rw [if_neg (by simp [c])]
    dsimp only
    rw [ix_la, ix_la, e_wA (by omega), ca_s (hm 3), it_e, if_b0, if_neg (by simp [c]), e_rAl (by decide), upS_ne (by omega), e_wA (by omega), if_pos c, hL.1 7 (by decide)]
    exact ⟨_, rfl, h.of (h.1.held w hr _ h1) (by rw [u2_ne (by omega), u2_ne (by omega)]) (by rw [upS_ne (by omega), upS_ne (by omega)]), f2 _ _⟩
  · rw [if_pos (by simp [c])]
    dsimp only
    rw [ix_la, ix_la, e_wA (by omega), ca_s (hm 0), it_e, if_b0, if_pos (by simp [c]), e_wA (by omega), if_neg c]
    exact ⟨_, rfl, h.of (h.1.free w hr h1) (by rw [u2_ne (by omega)]) (by rw [upS_ne (by omega), upS_ne (by omega)]), f2 _ _⟩
theorem wfN.backV (wL : wfL P) (h : wfN P V) {r : Nat} (hr : r < ct P 4) : wfN P (s_backV P V r) := by
  unfold s_backV
  by_cases c : V 1 r = 1
  · rw [if_pos c]
    by_cases c2 : s_isApproached P V (P 11 r).toNatClampNeg = true
    · rw [if_pos c2]
      obtain ⟨a, b, d⟩ := h
      refine ⟨a, fun q hq => ?_, d⟩
      by_cases e : q = r
      · subst e
        rw [u2_ne (by omega), u2_eq, u2_eq]
        exact ⟨fun e => absurd e (by decide), fun _ => wL.hold⟩
      · rw [u2_ne (by omega), u2_ne (by omega), u2_ne (by omega), u2_ne (by omega)]
        exact b q hq
    · rw [if_neg c2]
      exact h.how (fun e => absurd e (by decide)) (by decide)
  · rw [if_neg c]; exact h
theorem RW.throwV (w : okP P) (h : RW P V S) {k : Nat} (h0 : s_whyThrow P V k = 0) : RW P (s_throwV P V k) (upS S 228 (S 228 ^^^ (1 <<< (nI k &&& 31)))) := by
  rw [s_throwV, if_pos h0, h.1.rev]
  exact h.of (h.1.rv w _) (u2_ne (by omega)) (upS_ne (by omega))
theorem wfN.throwV (w : okP P) (h : wfN P V) {k : Nat} (hk : k < ct P 1) : wfN P (s_throwV P V k) := by
  unfold s_throwV
  split
  · exact h.rv (h.1.1.xor (lowB.bit hk (by have := w.c1.2; omega)))
  · exact h
theorem RS.failu (h : RS P V S) (w : okP P) {k : Nat} (hk : k < ct P 0) (x y v : Int32) (hx : ∀ i, i < 32 → ¬ i = k → bt x i = bt (V 0 4) i ∧ bt y i = bt (V 0 5) i) (hv : v = b2 (bt x k) + 2 * b2 (bt y k)) : RS P (u2 (u2 V 0 4 x) 0 5 y) (upS S (259 + k) v) := by
  have h0 := w.c0.2
  have h4 := w.c4.2
  have h6 := w.c6.2
  refine ⟨?_, ?_, ?_, ?_, fun i hi => ?_, fun q hq => ?_, fun u hu => ?_⟩
  · rw [upS_ne (by omega), u2_ne (by omega), u2_ne (by omega)]; exact h.tick
  · rw [upS_ne (by omega), u2_ne (by omega), u2_ne (by omega)]; exact h.met
  · rw [upS_ne (by omega), u2_ne (by omega), u2_ne (by omega)]; exact h.rev
  · rw [upS_ne (by omega), u2_ne (by omega), u2_ne (by omega)]; exact h.cr
  · rw [fail_val _ (by omega), u2_ne (by omega), u2_eq, u2_eq]
    by_cases c : i = k
    · subst c; rw [upS_eq, hv]
    · rw [upS_ne (by omega), h.fl hi, fail_val _ (by omega), (hx i (by omega) c).1, (hx i (by omega) c).2]
  · rw [upS_ne (by omega), upS_ne (by omega), upS_ne (by omega)]
    simp (disch := omega) only [u2_ne]
    exact h.r q hq
  · rw [upS_ne (by omega), upS_ne (by omega), upS_ne (by omega)]
    simp (disch := omega) only [u2_ne]
    exact h.t u hu
theorem b_setb {x : Int32} {k i : Nat} (hk : k < 32) (hi : i < 32) : bt (x ||| (1 <<< (nI k &&& 31))) i = (bt x i || decide (i = k)) := by rw [b_or, b_bit hk hi]
theorem b_clr {x : Int32} {k i : Nat} (hk : k < 32) (hi : i < 32) : bt (x &&& ((1 <<< (nI k &&& 31)) ^^^ -1)) i = (bt x i && !decide (i = k)) := by rw [b_and, b_not hi, b_bit hk hi]
theorem RW.failV (w : okP P) (h : RW P V S) {k : Nat} (hk : k < ct P 0) {f : Int32} (hf : f = 0 ∨ f = 1) (h0 : ¬ s_failing V (nI k) = f + 1) : RW P (s_failV V (nI k) f) (upS S (259 + k) (f + 1)) := by
  have hb := w.c0.2
  rw [s_failV, if_neg h0]
  refine h.of ?_ (by rw [u2_ne (by omega), u2_ne (by omega)]) (by rw [upS_ne (by omega)])
  rcases hf with rfl | rfl
  · rw [if_pos rfl, if_pos rfl]
    refine h.1.failu w hk _ _ _ (fun i hi c => ?_) ?_
    · rw [b_setb (by omega) hi, b_clr (by omega) hi]; simp [c]
    · rw [b_setb (by omega) (by omega), b_clr (by omega) (by omega)]; simp [b2]
  · rw [if_neg (by decide), if_neg (by decide)]
    refine h.1.failu w hk _ _ _ (fun i hi c => ?_) ?_
    · rw [b_setb (by omega) hi, b_clr (by omega) hi]; simp [c]
    · rw [b_setb (by omega) (by omega), b_clr (by omega) (by omega)]; simp [b2]
theorem RW.mendV (w : okP P) (h : RW P V S) {k : Nat} (hk : k < ct P 0) (h0 : ¬ s_failing V (nI k) = 0) : RW P (s_mendV V (nI k)) (upS S (259 + k) 0) := by
  have hb := w.c0.2
  rw [s_mendV, if_neg h0]
  refine h.of ?_ (by rw [u2_ne (by omega), u2_ne (by omega)]) (by rw [upS_ne (by omega)])
  refine h.1.failu w hk _ _ _ (fun i hi c => ?_) ?_
  · rw [b_clr (by omega) hi, b_clr (by omega) hi]; simp [c]
  · rw [b_clr (by omega) (by omega), b_clr (by omega) (by omega)]; simp [b2]
theorem wfN.fails (h : wfN P V) {x y : Int32} (hx : lowB x (ct P 0)) (hy : lowB y (ct P 0)) (hd : ∀ i, i < 32 → ¬ (bt x i = true ∧ bt y i = true)) : wfN P (u2 (u2 V 0 4 x) 0 5 y) := by
  obtain ⟨⟨a1, a2, a3, a4, a5, a6⟩, b, d⟩ := h
  exact ⟨⟨a1, hx, hy, hd, a5, a6⟩, b, d⟩
theorem wfN.failV (w : okP P) (h : wfN P V) {k : Nat} (hk : k < ct P 0) (f : Int32) : wfN P (s_failV V (nI k) f) := by
  have hb := w.c0.2
  obtain ⟨a1, a2, a3, a4, -⟩ := h.1
  unfold s_failV
  split
  · exact h
  · by_cases c : f = 0
    · rw [if_pos c, if_pos c]
      refine h.fails (a2.or (lowB.bit hk (by omega))) a3.and (fun i hi q => ?_)
      rw [b_setb (by omega) hi, b_clr (by omega) hi] at q
      have := a4 i hi
      by_cases e : i = k <;> simp_all
    · rw [if_neg c, if_neg c]
      refine h.fails a2.and (a3.or (lowB.bit hk (by omega))) (fun i hi q => ?_)
      rw [b_setb (by omega) hi, b_clr (by omega) hi] at q
      have := a4 i hi
      by_cases e : i = k <;> simp_all
theorem wfN.mendV (w : okP P) (h : wfN P V) {k : Nat} (hk : k < ct P 0) : wfN P (s_mendV V (nI k)) := by
  have hb := w.c0.2
  obtain ⟨a1, a2, a3, a4, -⟩ := h.1
  unfold s_mendV
  split
  · exact h
  · refine h.fails a2.and a3.and (fun i hi q => ?_)
    rw [b_clr (by omega) hi, b_clr (by omega) hi] at q
    have := a4 i hi
    by_cases e : i = k <;> simp_all
end AC
