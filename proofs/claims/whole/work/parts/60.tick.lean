/-! the reference's tick, its ticks -/
section RK
variable {P V : m_V} {X : X_} {S : Nat → Int32}
theorem RW.zero (hW : RW P V S) (hN : wfN P V) : RT 0 P (u2 V 0 7 0) S := by
  refine ⟨hW.1.w7 _, by rw [hW.2]; exact hN.1.2.2.2.2.2, fun i hi => ?_⟩
  rw [u2_eq, b_0]
  simp
theorem RT.full {n : Nat} (hn : n = ct P 6) (h : RT n P V S) : RW P V S := by
  subst hn
  obtain ⟨h1, h2, h3⟩ := h
  refine ⟨h1, b_ext (fun i hi => ?_)⟩
  rw [h3 i hi]
  by_cases c : i < ct P 6
  · simp [c]
  · rw [h2 i (by omega) hi]; simp
theorem RW.of (h : RW P V S) {V' : m_V} {S' : Nat → Int32} (hS : RS P V' S') (h7 : V' 0 7 = V 0 7) (h8 : S' 282 = S 282) : RW P V' S' := ⟨hS, by rw [h7, h8]; exact h.2⟩
/-- one route's turn -/
def S_down (W : m_V) (r : Nat) (S : Nat → Int32) : Nat → Int32 := if W 1 r = 3 then (if W 2 r - 1 = 0 then upS (upS S (239 + r) (W 2 r - 1)) (229 + r) 0 else upS S (239 + r) (W 2 r - 1)) else S
theorem RW.down (w : okP P) (h : RW P V S) (hN : wfN P V) {r : Nat} (hr : r < ct P 4) : RW P (s_down r V) (S_down V r S) ∧ fr S (S_down V r S) := by
  have h4 := w.c4.2
  unfold s_down S_down
  by_cases c : V 1 r = 3
  · obtain ⟨n, en, h1, h2⟩ := (hN.2.1 r hr).2 c
    have e1 : (nI n - 1 : Int32) = nI (n - 1) := ix_sl h1
    rw [if_pos c, if_pos c]
    by_cases c2 : n = 1
    · have e0 : V 2 r - 1 = 0 := by rw [en, e1, c2]; rfl
      rw [if_neg (by rw [e0]; decide), if_pos e0, e0]
      refine ⟨h.of (h.1.loose w hr _ c) ?_ ?_, (fr.refl.u (by omega) (by omega)).u (by omega) (by omega)⟩
      · rw [u2_ne (by omega), u2_ne (by omega)]
      · rw [upS_ne (by omega), upS_ne (by omega)]
    · have e0 : ¬ V 2 r - 1 = 0 := by rw [en, e1]; exact nI_ne0 (by omega) (by omega)
      have e2 : 0 < V 2 r - 1 := by rw [en, e1, show (0 : Int32) = nI 0 from rfl]; exact nI_lt (by omega) (by omega)
      rw [if_pos e2, if_neg e0]
      refine ⟨h.of (h.1.hold w hr _ c) ?_ ?_, fr.refl.u (by omega) (by omega)⟩
      · rw [u2_ne (by omega)]
      · rw [upS_ne (by omega)]
  · rw [if_neg c, if_neg c]
    exact ⟨h, fr.refl⟩
theorem e_tick (hL : RLa P S) (wL : wfL P) (hN : wfN P V) (hW : RW P V S) : ∃ v S', fX12_tick (rowS X S) = some (v, rowS X S') ∧ RW P (s_tickV P V) S' ∧ fr S S' := by
  have w := wL.ok
  have h4 := w.c4.2
  have h6 := w.c6.2
  have hN0 : wfN P (u2 V 0 7 0) := hN.wt lowB.zero
  unfold fX12_tick
  rw [e_rAl (by decide)]
  refine lz1_post (n := ct P 6) (fun i Y => ∃ S1, Y = rowS X S1 ∧ RT i P (lo (s_turn P) i (u2 V 0 7 0)) S1 ∧ fr S S1) (fun o => ∃ v S', o = some (v, rowS X S') ∧ RW P (s_tickV P V) S' ∧ fr S S') (fun Y L hI => ?_) (fun i Y L hi hI ih => ?_) (ct P 6) 0 FU (rowS X S) (by omega) (by rw [FU_eq]; omega) ⟨S, rfl, hW.zero hN, fr.refl⟩
  · obtain ⟨S1, rfl, hT, f1⟩ := hI
    have hN1 : wfN P (lo (s_turn P) (ct P 6) (u2 V 0 7 0)) := lo_inv hN0 _ (fun t W ht hW => hW.turn wL ht)
    rw [e_rAl (by decide), (hL.fr wL f1).n6 w, it_e, if_pos (nI_le (Nat.le_refl _) (by omega))]
    have hW1 := hT.full rfl
    refine lz1_post (n := ct P 4) (fun i Y => ∃ S2, Y = rowS X S2 ∧ RW P (lo s_down i (lo (s_turn P) (ct P 6) (u2 V 0 7 0))) S2 ∧ fr S S2) (fun o => ∃ v S', o = some (v, rowS X S') ∧ RW P (s_tickV P V) S' ∧ fr S S') (fun Y L hI => ?_) (fun i Y L hi hI ih => ?_) (ct P 4) 0 FU (rowS X S1) (by omega) (by rw [FU_eq]; omega) ⟨S1, rfl, hW1, f1⟩
    · obtain ⟨S2, rfl, hW2, f2⟩ := hI
      rw [e_rAl (by decide), (hL.fr wL f2).n4 w, it_e, if_pos (nI_le (Nat.le_refl _) (by omega)), e_rAl (by decide), e_wAl (by decide), e_rAl (by decide), it_e, hW2.1.tick]
      have fin : RW P (s_tickV P V) (upS S2 226 (lo s_down (ct P 4) (lo (s_turn P) (ct P 6) (u2 V 0 7 0)) 0 1 + 1)) := by
        rw [tick_eq]
        exact hW2.of (hW2.1.tk w _) (u2_ne (by omega)) (upS_ne (by omega))
      split
      · exact ⟨_, _, rfl, fin, f2.u (by omega) (by omega)⟩
      · exact ⟨_, _, rfl, fin, f2.u (by omega) (by omega)⟩
    · obtain ⟨S2, rfl, hW2, f2⟩ := hI
      have hN2 : wfN P (lo s_down i (lo (s_turn P) (ct P 6) (u2 V 0 7 0))) := lo_inv hN1 _ (fun r W hr hW => hW.down (by omega))
      have hd := hW2.down w hN2 hi
      rw [e_rAl (by decide), (hL.fr wL f2).n4 w, it_e, if_neg (nI_ge hi (by omega)), ix_la, e_rA (by omega), hW2.1.how hi, it_e, nI_1]
      have step : RW P (lo s_down (i + 1) (lo (s_turn P) (ct P 6) (u2 V 0 7 0))) (S_down (lo s_down i (lo (s_turn P) (ct P 6) (u2 V 0 7 0))) i S2) := hd.1
      have f3 := f2.trans hd.2
      generalize lo s_down i (lo (s_turn P) (ct P 6) (u2 V 0 7 0)) = W at hW2 hN2 hd step f3 ⊢
      by_cases c : W 1 i = 3
      · rw [if_pos c, ix_la, e_rA (by omega), hW2.1.tm hi, if_pos c, e_wA (by omega), e_rA (by omega), upS_eq, it_e, e_wA (by omega)]
        unfold S_down at step f3
        rw [if_pos c] at step f3
        by_cases c2 : W 2 i - 1 = 0
        · rw [if_pos c2] at step f3 ⊢
          exact ih _ ⟨_, rfl, step, f3⟩
        · rw [if_neg c2] at step f3 ⊢
          exact ih _ ⟨_, rfl, step, f3⟩
      · rw [if_neg c]
        unfold S_down at step f3
        rw [if_neg c] at step f3
        exact ih _ ⟨_, rfl, step, f3⟩
  · obtain ⟨S1, rfl, hT, f1⟩ := hI
    have hN1 : wfN P (lo (s_turn P) i (u2 V 0 7 0)) := lo_inv hN0 _ (fun t W ht hW => hW.turn wL (by omega))
    obtain ⟨S2, k1, k2, k3⟩ := e_moves (X := X) (hL.fr wL f1) wL hN1 hT hi
    rw [e_rAl (by decide), (hL.fr wL f1).n6 w, it_e, if_neg (nI_ge hi (by omega)), ca_s k1, nI_1]
    exact ih _ ⟨S2, rfl, k2, f1.trans k3⟩
/-- ticks, as far as the last one -/
theorem e_goesOn (wL : wfL P) : ∀ (n : Nat), n ≤ 60 → ∀ (S : Nat → Int32) (V : m_V), RLa P S → wfN P V → RW P V S → ∃ S', fX12_goesOn (nI n) (rowS X S) = some (nI (s_tk P n V).1, rowS X S') ∧ RW P (s_tk P n V).2 S' ∧ fr S S' ∧ wfN P (s_tk P n V).2 := by
  intro n hn S V hL hN hW
  unfold fX12_goesOn
  have key : ∀ m i f (S1 : Nat → Int32) (V1 : m_V), i + m = n → m < f → RLa P S1 → wfN P V1 → RW P V1 S1 → ∃ S', lz1 (fun L2 x1 => (it (nI n ≤ x1) (re x1) (rA 220 469 226 fun v2 => (it (1000 ≤ v2) (re x1) (ca fX12_tick fun v3 => (L2 (x1 + 1))))))) f (nI i) (rowS X S1) = some (nI (i + (s_tk P m V1).1), rowS X S') ∧ RW P (s_tk P m V1).2 S' ∧ fr S1 S' ∧ wfN P (s_tk P m V1).2 := by
    intro m
    induction m with
    | zero =>
      intro i f S1 V1 hi hf hL1 hN1 hW1
      obtain ⟨f, rfl⟩ : ∃ g, f = g + 1 := ⟨f - 1, by omega⟩
      obtain rfl : i = n := by omega
      rw [lz1_s, it_e, if_pos (nI_le (Nat.le_refl _) (by omega))]
      exact ⟨S1, rfl, hW1, fr.refl, hN1⟩
    | succ m ih =>
      intro i f S1 V1 hi hf hL1 hN1 hW1
      obtain ⟨f, rfl⟩ : ∃ g, f = g + 1 := ⟨f - 1, by omega⟩
      rw [lz1_s, it_e, if_neg (nI_ge (by omega) (by omega)), e_rAl (by decide), hW1.1.tick, it_e, s_tk]
      by_cases c : 1000 ≤ V1 0 1
      · rw [if_pos c, if_pos c]
        exact ⟨S1, rfl, hW1, fr.refl, hN1⟩
      · rw [if_neg c, if_neg c]
        obtain ⟨v, S2, k1, k2, k3⟩ := e_tick (X := X) hL1 wL hN1 hW1
        obtain ⟨S', j1, j2, j3, j4⟩ := ih (i + 1) f S2 (s_tickV P V1) (by omega) (by omega) (hL1.fr wL k3) (hN1.tick wL) k2
        rw [ca_s k1, nI_1, j1]
        refine ⟨S', ?_, j2, k3.trans j3, j4⟩
        rw [show i + 1 + (s_tk P m (s_tickV P V1)).1 = i + ((s_tk P m (s_tickV P V1)).1 + 1) by omega]
  obtain ⟨S', j1, j2, j3, j4⟩ := key n 0 FU S V (by omega) (by rw [FU_eq]; omega) hL hN hW
  rw [Nat.zero_add] at j1
  exact ⟨S', j1, j2, j3, j4⟩
end RK
