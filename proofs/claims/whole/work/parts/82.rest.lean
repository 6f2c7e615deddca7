/-! restore: both -/
section RE
variable {X : X_}
theorem sim_restore (a : Int32) : Sim (fX11_restore a) (fX12_restore a) := fun X hX => by
  unfold fX11_restore fX12_restore
  by_cases c1 : a < 0
  · refine ⟨0, X, sI X 218 0 0, by rw [it_t c1]; rfl, ?_, hX.thrown⟩
    rw [pI_e, ca_s (isIn_f (fun h => (in01.mpr h).1 c1)), it_t (show (0 : Int32) = 0 from rfl)]; rfl
  by_cases c2 : 2 ≤ a
  · refine ⟨0, X, sI X 218 0 0, by rw [it_f c1, it_t c2]; rfl, ?_, hX.thrown⟩
    rw [pI_e, ca_s (isIn_f (fun h => by rcases h with rfl | rfl <;> exact absurd c2 (by decide))), it_t (show (0 : Int32) = 0 from rfl)]; rfl
  obtain ⟨k, hk, rfl⟩ := in01b c1 (Int32.not_le.mp c2)
  have hb := imB_eq hk
  have old := hX.im hk
  have i01 : nI k = 0 ∨ nI k = 1 := by
    rcases hk with rfl | rfl
    · exact Or.inl rfl
    · exact Or.inr rfl
  generalize hib : imB k = b at hb old
  obtain ⟨o1, o2⟩ := old
  rcases o2 with o2 | ⟨o2, W⟩
  · refine ⟨0, X, sI X 218 0 0, ?_, ?_, hX.thrown⟩
    · rw [it_f c1, it_f c2, rM_k hk, hib, gI_e, it_t o2]; rfl
    · rw [pI_e, ca_s (isIn_t i01), it_f (show ¬ (1 : Int32) = 0 by decide), rA_n (by omega) (by decide), sI_row (by decide), ← o1, it_t o2]; rfl
  · have h01 : X.1 (b + 22) 0 = 0 ∨ X.1 (b + 22) 0 = 1 := rQ_01 W.q
    obtain ⟨Y, y1, y2, y3, y4, y5, y6, y7, y8⟩ := k_cp3 (X := X) (p := b + 1) (p' := 4) (s := b + 27) (s' := 47) (u := b + 22) (u' := 130) (by unfold dj; omega) (by unfold dj; omega) (by unfold dj; omega) (by unfold dj; omega) (by unfold dj; omega) (by unfold dj; omega) (by unfold dj; omega) (by unfold dj; omega) (by unfold dj; omega) h01
    let X1 : X_ := sI Y 61 1 0
    let X2 : X_ := sI (setJ (setR (sI X1 218 0 0) 220 (cpN 0 469 (fun i => (sI X1 218 0 0).1 236 (469 * k + i)) ((sI X1 218 0 0).1 220))) 223 (cpJ 0 41 (fun i => (sI X1 218 0 0).2.1 237 (41 * k + i)) ((sI X1 218 0 0).2.1 223))) 218 23 0
    have R : ∀ q, ¬ (4 ≤ q ∧ q < 25) → ¬ (47 ≤ q ∧ q < 54) → ¬ (130 ≤ q ∧ q < 134) → ¬ q = 61 → ¬ q = 218 → ¬ q = 220 → X2.1 q = X.1 q := fun q q1 q2 q3 q4 q5 q6 => by
      show (sI (setJ (setR (sI (sI Y 61 1 0) 218 0 0) _ _) _ _) 218 23 0).1 q = _
      rw [sI_row q5, setJ_1, setR_ne q6, sI_row q5, sI_row q4, y2 q (by omega) (by omega) (by omega)]
    have B : ∀ q, ¬ q = 61 → ¬ q = 218 → ¬ q = 220 → X2.1 q = Y.1 q := fun q q4 q5 q6 => by
      show (sI (setJ (setR (sI (sI Y 61 1 0) 218 0 0) _ _) _ _) 218 23 0).1 q = _
      rw [sI_row q5, setJ_1, setR_ne q6, sI_row q5, sI_row q4]
    have F : ∀ q, ¬ q = 0 → ¬ q = 23 → X2.1 218 q = X.1 218 q := fun q q1 q2 => by
      show (sI (setJ (setR (sI (sI Y 61 1 0) 218 0 0) _ _) _ _) 218 23 0).1 218 q = _
      rw [sI_ne (by omega), setJ_1, setR_ne (by decide), sI_ne (by omega), sI_row (by decide), y2 218 (by omega) (by omega) (by omega)]
    have J : ∀ q, ¬ (4 ≤ q ∧ q < 25) → ¬ q = 223 → X2.2.1 q = X.2.1 q := fun q q1 q2 => by
      show (setJ (setR (sI (sI Y 61 1 0) 218 0 0) _ _) _ _).2.1 q = _
      rw [setJ_ne q2]
      exact y3 q (by omega)
    have BJ : ∀ q, ¬ q = 223 → X2.2.1 q = Y.2.1 q := fun q q2 => by
      show (setJ (setR (sI (sI Y 61 1 0) 218 0 0) _ _) _ _).2.1 q = _
      rw [setJ_ne q2]
      rfl
    have v1 : ¬ X.1 b 3 = 0 := by rw [o2]; decide
    refine ⟨1, X1, X2, ?_, ?_, ?_⟩
    · rw [it_f c1, it_f c2, rM_k hk, hib, gI_e, it_f v1, rM_k hk, hib, ca_s (show fX4_giveBack b X = some ((), Y) from y1 _)]
      rfl
    · have r238 : (sI X1 218 0 0).1 238 k = X.1 238 k := by
        show (sI (sI Y 61 1 0) 218 0 0).1 238 k = _
        rw [sI_row (by decide), sI_row (by decide), y2 238 (by omega) (by omega) (by omega)]
      rw [pI_e, ca_s (isIn_t i01), it_f (show ¬ (1 : Int32) = 0 by decide), rA_n (by omega) (by decide), r238, ← o1, it_f v1]
      refine (e_cpI (a := 236) (b := 220) (na := 938) (nb := 469) (d := 0) (e := 469 * k) (n := 469) (K := (lz1 (fun L60 x4 => (it (41 ≤ x4) (pI 218 23 0 (re 1)) (rJ 237 82 ((41 * nI k) + x4) fun v5 => (wJ 223 82 x4 v5 (L60 (x4 + 1)))))) FU 0)) (by decide) (by decide) (by decide) (by decide) (by omega) (by decide) (fun L i Z hi => ?_) (fun L Z => ?_)).trans ?_
      · rw [it_f (nL_ge hi (by decide)), ix_lm, nI_add, nI_1, Nat.zero_add]
      · rw [it_t (nL_le (by decide))]
      · refine (e_cpJ (a := 237) (b := 223) (na := 82) (nb := 82) (d := 0) (e := 41 * k) (n := 41) (K := pI 218 23 0 (re 1)) (by decide) (by decide) (by decide) (by decide) (by omega) (by decide) (fun L i Z hi => ?_) (fun L Z => ?_)).trans ?_
        · rw [it_f (nL_ge hi (by decide)), ix_lm, nI_add, nI_1, Nat.zero_add]
        · rw [it_t (nL_le (by decide))]
        · rfl
    · have hw : I_w X2 := by
        refine Wd.congr W ?_ ?_ ?_ ?_ (fun j hj => ?_) (fun j hj => ?_)
        · rw [show bP X2 4 = bP Y 4 from bB_same (fun a h1 h2 => B a (by omega) (by omega) (by omega))]; exact y5
        · rw [show bPJ X2 4 = bPJ Y 4 from bL_same (fun a h1 h2 => BJ a (by omega))]; exact y6
        · rw [show bV X2 47 = bV Y 47 from bB_same (fun a h1 h2 => B a (by omega) (by omega) (by omega))]; exact y7
        · rw [show bQ X2 130 = bQ Y 130 from bB_same (fun a h1 h2 => B a (by omega) (by omega) (by omega))]; exact y8
        · show (sI (setJ (setR (sI (sI Y 61 1 0) 218 0 0) _ _) _ _) 218 23 0).1 220 j = _
          have := cpN_in (d := 0) (n := 469) (j := j) (g := fun i => (sI X1 218 0 0).1 236 (469 * k + i)) (f := (sI X1 218 0 0).1 220) hj
          rw [Nat.zero_add] at this
          rw [sI_row (by decide), setJ_1, setR_eq]
          refine this.trans ?_
          show (sI (sI Y 61 1 0) 218 0 0).1 236 _ = _
          rw [sI_row (by decide), sI_row (by decide), y2 236 (by omega) (by omega) (by omega)]
        · show (setJ (setR (sI (sI Y 61 1 0) 218 0 0) _ _) _ _).2.1 223 j = _
          have := cpJ_in (d := 0) (n := 41) (j := j) (g := fun i => (sI X1 218 0 0).2.1 237 (41 * k + i)) (f := (sI X1 218 0 0).2.1 223) hj
          rw [Nat.zero_add] at this
          rw [setJ_eq]
          exact this.trans (congrFun (y3 237 (by omega)) _)
      have hh : I_h X2 := by
        obtain ⟨h, -, -, -, p1, p2, -⟩ := hX.h
        have g2 : X2.2.2 = X.2.2 := y4
        refine ⟨0, by decide, ?_, ?_, by rw [g2]; exact p1, by rw [g2]; exact p2, fun i hi => absurd hi (Nat.not_lt_zero i)⟩
        · show (sI (setJ (setR (sI (sI Y 61 1 0) 218 0 0) _ _) _ _) 218 23 0).1 61 1 = _
          rw [sI_row (by decide), setJ_1, setR_ne (by decide), sI_row (by decide), sI_eq]
          rfl
        · exact sI_eq
      refine ⟨?_, ?_, ?_, ?_, ?_, ?_, ?_, ?_, ?_, ?_⟩
      · exact hX.t.of (congrFun (by exact R _ (by omega) (by omega) (by omega) (by omega) (by omega) (by omega)) 1) (by exact R _ (by omega) (by omega) (by omega) (by omega) (by omega) (by omega)) (by exact F _ (by decide) (by decide)) (by exact R _ (by omega) (by omega) (by omega) (by omega) (by omega) (by omega))
      · exact hX.k.of (by exact J _ (by omega) (by omega)) (by exact J _ (by omega) (by omega))
      · exact hw
      · exact hh
      · exact hX.i.of (fun a ha => by exact R _ (by omega) (by omega) (by omega) (by omega) (by omega) (by omega)) (fun a ha => by exact J _ (by omega) (by omega))
      · exact hX.b.of (by exact R _ (by omega) (by omega) (by omega) (by omega) (by omega) (by omega)) (by exact F _ (by decide) (by decide)) (by exact R _ (by omega) (by omega) (by omega) (by omega) (by omega) (by omega))
      · exact hX.c.of (fun a ha => by exact R _ (by omega) (by omega) (by omega) (by omega) (by omega) (by omega)) (by exact F _ (by decide) (by decide)) (by exact F _ (by decide) (by decide))
      · exact hX.f.of (fun a ha => by exact R _ (by omega) (by omega) (by omega) (by omega) (by omega) (by omega)) (by exact F _ (by decide) (by decide)) (by exact F _ (by decide) (by decide))
      · exact hX.g.of (fun a ha => by exact R _ (by omega) (by omega) (by omega) (by omega) (by omega) (by omega)) (by exact F _ (by decide) (by decide))
      · exact hX.o.of (by exact R _ (by omega) (by omega) (by omega) (by omega) (by omega) (by omega)) (by exact F _ (by decide) (by decide)) (by exact F _ (by decide) (by decide)) (by exact F _ (by decide) (by decide))
end RE
