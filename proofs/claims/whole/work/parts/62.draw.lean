/-! ticks by draws -/
section DR
variable {P V : m_V} {X : X_} {S : Nat → Int32}
theorem sI_sI {a k : Nat} {u v : Int32} : sI (sI X a k u) a k v = sI X a k v := by
  refine Prod.ext (funext fun b => funext fun j => ?_) rfl
  by_cases c : b = a ∧ j = k <;> simp [sI, c]
theorem e_draw {n : Nat} (hn : 0 < n) (hn2 : n < 2 ^ 31) (z : Int32) : fX12_draw (nI n) (rowS (sI X 218 37 z) S) = some (s_lot (s_stir z) (nI n), rowS (sI X 218 37 (s_stir z)) S) := by
  have h1 : ¬ nI n = 0 := nI_ne0 hn hn2
  have h2 : ¬ nI n < 1 := by
    rw [show (1 : Int32) = nI 1 from rfl, nI_ltI hn2 (by omega)]
    omega
  unfold fX12_draw
  rw [gI_e, rowS_ne (by decide), sI_i, if_pos ⟨rfl, rfl⟩, pI_e, gI_e, rowS_0, sI_sI, nz_e h1, re_e, rowS_ne (by decide), sI_i, if_pos ⟨rfl, rfl⟩, s_lot, if_neg h2]
  rfl
theorem lotN (z : Int32) {n : Nat} (hn : 0 < n) (hn2 : n < 2 ^ 31) : ∃ q, q < n ∧ s_lot z (nI n) = nI q := lot_in z hn hn2
theorem e_drawTick (hL : RLa P S) (wL : wfL P) (hN : wfN P V) (hW : RW P V S) (z : Int32) : ∃ S', fX12_drawTick (rowS (sI X 218 37 z) S) = some ((), rowS (sI X 218 37 (s_dx P z)) S') ∧ RW P (s_dV P V z) S' ∧ fr S S' ∧ wfN P (s_dV P V z) := by
  have w := wL.ok
  have h4 := w.c4.2
  have h1 := w.c1.2
  obtain ⟨q, hq, eq⟩ := lotN (s_stir z) (n := 4) (by decide) (by decide)
  have eq : s_lot (s_stir z) 4 = nI q := eq
  unfold fX12_drawTick s_dV s_dx s_ch
  rw [ca_s (show fX12_draw 4 (rowS (sI X 218 37 z) S) = _ from e_draw (n := 4) (by decide) (by decide) z), show s_lot (s_stir z) (nI 4) = nI q from eq, eq, jo0_e, it_e]
  have l2 : (nI q < 2) = (q < 2) := cR_lt (by omega) (by decide)
  have e2 : (nI q = 2) = (q = 2) := cR_eq (by omega) (by decide)
  have g2 : ((2 : Int32) ≤ nI q) = (2 ≤ q) := cL_le (by decide) (by omega)
  simp only [l2, e2, g2]
  by_cases c : q < 2
  · have c2 : ¬ q = 2 := by omega
    have c3 : ¬ 2 ≤ q := by omega
    rw [if_neg c3, if_pos c, e_rAl (by decide), hL.n4 w, w.c4.1, it_e]
    by_cases d : ct P 4 = 0
    · rw [d, if_pos (by decide), it_e, if_neg (by rw [e2]; exact c2), if_neg (by decide), if_neg (by decide)]
      exact ⟨S, rfl, hW, fr.refl, hN⟩
    · have d1 : (0 : Int32) < nI (ct P 4) := by rw [show (0 : Int32) = nI 0 from rfl]; exact nI_lt (by omega) (by omega)
      obtain ⟨r, hr, er⟩ := lotN (s_stir (s_stir z)) (n := ct P 4) (by omega) (by omega)
      rw [if_neg (nI_nle (by omega) (by omega)), e_rAl (by decide), hL.n4 w, ca_s (e_draw (by omega) (by omega) _), er, if_pos d1, if_pos d1, ix_la, e_rA (by omega), hW.1.how hr, it_e, nI_clamp (by omega)]
      unfold s_lotV
      rw [if_neg (show ¬ nI q = 2 by rw [e2]; exact c2)]
      by_cases k : V 1 r = 1
      · rw [if_pos k, if_pos k]
        obtain ⟨S', a1, a2, a3⟩ := e_putsBack (X := sI X 218 37 (s_stir (s_stir z))) hL wL hW hr k
        rw [ca_s a1, it_e, if_neg (by rw [e2]; exact c2)]
        exact ⟨S', rfl, a2, a3, hN.backV wL hr⟩
      · rw [if_neg k, if_neg k, ca_s (e_whySet hL.ro w wL.r hW.1.ro hN hr), it_e]
        by_cases k2 : s_whyNotSet P V r = 0
        · rw [if_pos k2, e_wA (by omega), it_e, if_neg (by rw [e2]; exact c2)]
          exact ⟨_, rfl, hW.setV w hr k2, fr.refl.u (by omega) (by omega), hN.setV r⟩
        · rw [if_neg k2, it_e, if_neg (by rw [e2]; exact c2)]
          refine ⟨S, rfl, ?_, fr.refl, hN.setV r⟩
          rw [s_setV, if_neg k2]
          exact hW
  · have c3 : 2 ≤ q := by omega
    rw [if_pos c3, if_neg c, it_e]
    by_cases c2 : q = 2
    · rw [if_pos c2, if_pos c2, e_rAl (by decide), hL.n1 w, w.c1.1, it_e]
      by_cases d : ct P 1 = 0
      · rw [d, if_pos (by decide), if_neg (by decide), if_neg (by decide)]
        exact ⟨S, rfl, hW, fr.refl, hN⟩
      · have d1 : (0 : Int32) < nI (ct P 1) := by rw [show (0 : Int32) = nI 0 from rfl]; exact nI_lt (by omega) (by omega)
        obtain ⟨k, hk, ek⟩ := lotN (s_stir (s_stir z)) (n := ct P 1) (by omega) (by omega)
        rw [if_neg (nI_ne0 (by omega) (by omega)), e_rAl (by decide), hL.n1 w, ca_s (e_draw (by omega) (by omega) _), ek, if_pos d1, if_pos d1, ca_s (e_whyThrow hL.ro wL hW.1.ro hN hk), it_e, nI_clamp (by omega)]
        unfold s_lotV
        rw [if_pos (show nI q = 2 by rw [e2]; exact c2)]
        by_cases k2 : s_whyThrow P V k = 0
        · rw [if_pos k2, e_rAl (by decide), e_wAl (by decide)]
          exact ⟨_, rfl, hW.throwV w k2, fr.refl.u (by omega) (by omega), hN.throwV w hk⟩
        · rw [if_neg k2]
          refine ⟨S, rfl, ?_, fr.refl, hN.throwV w hk⟩
          rw [s_throwV, if_neg k2]
          exact hW
    · rw [if_neg c2, if_neg c2, if_neg (by decide), if_neg (by decide)]
      exact ⟨S, rfl, hW, fr.refl, hN⟩
/-- n ticks by draws -/
theorem e_draws (wL : wfL P) (n : Nat) (hn : n ≤ 60) (x0 : Int32) (hL : RLa P S) (hN : wfN P V) (hW : RW P V S) : ∃ z S', fX12_draws (nI n) x0 (rowS X S) = some (nI (s_dr P n x0 V).1, rowS (sI X 218 37 z) S') ∧ RW P (s_dr P n x0 V).2 S' ∧ fr S S' ∧ wfN P (s_dr P n x0 V).2 := by
  unfold fX12_draws
  have key : ∀ m i f (z : Int32) (S1 : Nat → Int32) (V1 : m_V), i + m = n → m < f → RLa P S1 → wfN P V1 → RW P V1 S1 → ∃ z' S', lz1 (fun L7 x1 => (it (nI n ≤ x1) (re x1) (rA 220 469 226 fun v2 => (it (1000 ≤ v2) (re x1) (ca fX12_drawTick fun _ => (ca fX12_tick fun v3 => (L7 (x1 + 1)))))))) f (nI i) (rowS (sI X 218 37 z) S1) = some (nI (i + (s_dr P m z V1).1), rowS (sI X 218 37 z') S') ∧ RW P (s_dr P m z V1).2 S' ∧ fr S1 S' ∧ wfN P (s_dr P m z V1).2 := by
    intro m
    induction m with
    | zero =>
      intro i f z S1 V1 hi hf hL1 hN1 hW1
      obtain ⟨f, rfl⟩ : ∃ g, f = g + 1 := ⟨f - 1, by omega⟩
      obtain rfl : i = n := by omega
      rw [lz1_s, it_e, if_pos (nI_le (Nat.le_refl _) (by omega))]
      exact ⟨z, S1, rfl, hW1, fr.refl, hN1⟩
    | succ m ih =>
      intro i f z S1 V1 hi hf hL1 hN1 hW1
      obtain ⟨f, rfl⟩ : ∃ g, f = g + 1 := ⟨f - 1, by omega⟩
      rw [lz1_s, it_e, if_neg (nI_ge (by omega) (by omega)), e_rAl (by decide), hW1.1.tick, it_e, s_dr]
      by_cases c : 1000 ≤ V1 0 1
      · rw [if_pos c, if_pos c]
        exact ⟨z, S1, rfl, hW1, fr.refl, hN1⟩
      · rw [if_neg c, if_neg c]
        obtain ⟨S2, k1, k2, k3, k4⟩ := e_drawTick (X := X) hL1 wL hN1 hW1 z
        obtain ⟨v, S3, l1, l2, l3⟩ := e_tick (X := sI X 218 37 (s_dx P z)) (hL1.fr wL k3) wL k4 k2
        obtain ⟨z', S', j1, j2, j3, j4⟩ := ih (i + 1) f (s_dx P z) S3 (s_tickV P (s_dV P V1 z)) (by omega) (by omega) ((hL1.fr wL k3).fr wL l3) (k4.tick wL) l2
        rw [ca_s k1, ca_s l1, nI_1, j1]
        refine ⟨z', S', ?_, j2, (k3.trans l3).trans j3, j4⟩
        rw [show i + 1 + (s_dr P m (s_dx P z) (s_tickV P (s_dV P V1 z))).1 = i + ((s_dr P m (s_dx P z) (s_tickV P (s_dV P V1 z))).1 + 1) by omega]
  obtain ⟨z', S', j1, j2, j3, j4⟩ := key n 0 FU x0 S V (by omega) (by rw [FU_eq]; omega) hL hN hW
  rw [Nat.zero_add] at j1
  refine ⟨z', S', ?_, j2, j3, j4⟩
  rw [pI_e, rowS_0]
  exact j1
end DR
