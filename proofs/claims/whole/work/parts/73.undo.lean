/-! undo; comes, meet, odds -/
section UN
variable {X : X_}
theorem bkJ_self {b n : Nat} {V : m_V} : (bk X b n V (bL n X b)).2.1 = X.2.1 := by
  funext a
  by_cases q : b ≤ a ∧ a < b + n
  · obtain ⟨j, rfl⟩ : ∃ j, a = b + j := ⟨a - b, by omega⟩
    rw [bk_inJ (by omega)]
    funext i
    exact if_pos (show j < n by omega)
  · exact bk_rowJ q
theorem sim_undo : Sim fX11_undo fX12_undo := fun X hX => by
  have w := hX.w
  have ok := w.ok
  obtain ⟨h, q1, q2, q3, q4, q5, q6⟩ := hX.h
  unfold fX11_undo fX3_takeBack fX12_undo
  rw [ca_re, gI_e, q2]
  by_cases c : h = 0
  · subst c
    refine ⟨-1, X, sI X 218 0 0, by rw [it_t (show nI 0 = 0 from rfl)]; rfl, ?_, hX.thrown⟩
    rw [pI_e, gI_e, sI_ne (by decide), q3, it_t (show nI 0 = 0 from rfl)]
    rfl
  · have hg := q4 (h - 1) (by omega)
    have hne : ¬ nI h = 0 := nI_ne0 (by omega) (by omega)
    have e1 : (nI h - 1 : Int32) = nI (h - 1) := ix_sl (by omega)
    obtain ⟨r1, r2, r3⟩ := q6 (h - 1) (by omega)
    have cf : fX8_copyFrom 47 (63 + 7 * X.2.2 (h - 1)) (sI X 61 1 (nI (h - 1))) = some ((), bk (sI X 61 1 (nI (h - 1))) 47 7 (s_copy (bV (sI X 61 1 (nI (h - 1))) (63 + 7 * X.2.2 (h - 1))) (bV (sI X 61 1 (nI (h - 1))) 47)) (bVJ (sI X 61 1 (nI (h - 1))) 47)) := gd_t (Or.inr (by omega))
    have eH : bV (sI X 61 1 (nI (h - 1))) (63 + 7 * X.2.2 (h - 1)) = bV X (63 + 7 * X.2.2 (h - 1)) := bB_same (fun a _ _ => sI_row (by omega))
    rw [eH] at cf
    have rH1 : ∀ F : Nat → RM Int32, rH (nI (h - 1)) F (sI X 61 1 (nI (h - 1))) = F (X.2.2 (h - 1)) (sI X 61 1 (nI (h - 1))) := by
      intro F
      unfold rH
      rw [if_neg (nI_in (N := 9) (by omega) (by decide)), nI_clamp (by omega)]
      exact if_pos hg
    have X1r : ∀ a, ¬ (47 ≤ a ∧ a < 54) → ¬ a = 61 → (bk (sI X 61 1 (nI (h - 1))) 47 7 (s_copy (bV X (63 + 7 * X.2.2 (h - 1))) (bV (sI X 61 1 (nI (h - 1))) 47)) (bVJ (sI X 61 1 (nI (h - 1))) 47)).1 a = X.1 a := fun a h1 h2 => by rw [bk_row (by omega), sI_row h2]
    have X1f : (bk (sI X 61 1 (nI (h - 1))) 47 7 (s_copy (bV X (63 + 7 * X.2.2 (h - 1))) (bV (sI X 61 1 (nI (h - 1))) 47)) (bVJ (sI X 61 1 (nI (h - 1))) 47)).1 61 1 = nI (h - 1) := by rw [bk_row (by omega), sI_eq]
    have X1j : (bk (sI X 61 1 (nI (h - 1))) 47 7 (s_copy (bV X (63 + 7 * X.2.2 (h - 1))) (bV (sI X 61 1 (nI (h - 1))) 47)) (bVJ (sI X 61 1 (nI (h - 1))) 47)).2.1 = X.2.1 := bkJ_self
    have X1g : (bk (sI X 61 1 (nI (h - 1))) 47 7 (s_copy (bV X (63 + 7 * X.2.2 (h - 1))) (bV (sI X 61 1 (nI (h - 1))) 47)) (bVJ (sI X 61 1 (nI (h - 1))) 47)).2.2 = X.2.2 := rfl
    have X1v : eqV (bV X (63 + 7 * X.2.2 (h - 1))) (bV (bk (sI X 61 1 (nI (h - 1))) 47 7 (s_copy (bV X (63 + 7 * X.2.2 (h - 1))) (bV (sI X 61 1 (nI (h - 1))) 47)) (bVJ (sI X 61 1 (nI (h - 1))) 47)) 47) := by
      show eqV _ (bB 7 _ _)
      rw [bB_bk]
      exact (eqV.copy _ _).trans eqV.trim
    have run : (it (nI h = 0) (re (-1)) (gI 61 1 fun v2 => (pI 61 1 (v2 - 1) (gI 61 1 fun v3 => (rH v3 fun g28 => (ca (fX8_copyFrom 47 (63 + 7 * g28)) fun _ => (gI 61 1 fun v4 => (re v4)))))))) X = some (nI (h - 1), bk (sI X 61 1 (nI (h - 1))) 47 7 (s_copy (bV X (63 + 7 * X.2.2 (h - 1))) (bV (sI X 61 1 (nI (h - 1))) 47)) (bVJ (sI X 61 1 (nI (h - 1))) 47)) := by
      rw [it_f hne, gI_e, q2, pI_e, e1, gI_e, sI_eq, rH1, ca_s cf, gI_e, X1f]
      rfl
    rw [run]
    generalize bk (sI X 61 1 (nI (h - 1))) 47 7 (s_copy (bV X (63 + 7 * X.2.2 (h - 1))) (bV (sI X 61 1 (nI (h - 1))) 47)) (bVJ (sI X 61 1 (nI (h - 1))) 47) = X1 at X1r X1f X1j X1g X1v
    -- the reference
    let Y0 : X_ := sI (sI X1 218 0 0) 218 23 (nI (h - 1))
    have y225 : Y0.1 225 = X.1 225 := by
      show (sI (sI X1 218 0 0) 218 23 (nI (h - 1))).1 225 = _
      rw [sI_row (by decide), sI_row (by decide)]; exact X1r 225 (by omega) (by omega)
    have y220 : Y0.1 220 = X.1 220 := by
      show (sI (sI X1 218 0 0) 218 23 (nI (h - 1))).1 220 = _
      rw [sI_row (by decide), sI_row (by decide)]; exact X1r 220 (by omega) (by omega)
    have y23 : Y0.1 218 23 = nI (h - 1) := sI_eq
    have g23 : ∀ f : Nat → Int32, (setR Y0 220 f).1 218 23 = nI (h - 1) := fun f => by rw [setR_ne (by decide)]; exact y23
    have loop : (lz1 (fun L26 x3 => (it (62 ≤ x3) (gI 218 23 fun v4 => (re v4)) (gI 218 23 fun v5 => (rA 225 496 ((62 * v5) + x3) fun v6 => (wA 220 469 (226 + x3) v6 (L26 (x3 + 1))))))) FU 0) Y0 = some (nI (h - 1), rowS Y0 (cpN 226 62 (fun i => X.1 225 (62 * (h - 1) + i)) (X.1 220))) := by
      have h0 : (fun i => setR Y0 220 (cpN 226 i (fun i => X.1 225 (62 * (h - 1) + i)) (X.1 220))) 0 = Y0 := by
        show setR Y0 220 (cpN 226 0 _ _) = Y0
        rw [cpN_0, setR_self y220]
      conv => lhs; rw [← h0]
      refine lz1_X (n := 62) (fun i => setR Y0 220 (cpN 226 i (fun i => X.1 225 (62 * (h - 1) + i)) (X.1 220))) (by decide) (fun i L hi => ?_) (fun L => ?_)
      · rw [it_f (nL_ge hi (by decide)), gI_e, g23, ix_lm, nI_add, rA_n (by omega) (by decide), setR_ne (by decide), y225, ix_la, wA_n (by omega) (by decide), setR_s, nI_1, cpN_s]
      · rw [it_t (nL_le (by decide)), gI_e, g23]
        rfl
    have F : ∀ k, ¬ k = 0 → ¬ k = 23 → (rowS Y0 (cpN 226 62 (fun i => X.1 225 (62 * (h - 1) + i)) (X.1 220))).1 218 k = X.1 218 k := fun k k1 k2 => by
      rw [rowS_ne (by decide)]
      show (sI (sI X1 218 0 0) 218 23 (nI (h - 1))).1 218 k = _
      rw [sI_ne (by omega), sI_ne (by omega), X1r 218 (by omega) (by omega)]
    have R1 : ∀ a, ¬ a = 218 → ¬ a = 220 → (rowS Y0 (cpN 226 62 (fun i => X.1 225 (62 * (h - 1) + i)) (X.1 220))).1 a = X1.1 a := fun a a1 a2 => by
      rw [rowS_ne a2]
      show (sI (sI X1 218 0 0) 218 23 (nI (h - 1))).1 a = _
      rw [sI_row a1, sI_row a1]
    have R : ∀ a, ¬ (47 ≤ a ∧ a < 54) → ¬ a = 61 → ¬ a = 218 → ¬ a = 220 → (rowS Y0 (cpN 226 62 (fun i => X.1 225 (62 * (h - 1) + i)) (X.1 220))).1 a = X.1 a := fun a a1 a2 a3 a4 => by
      rw [R1 a a3 a4]; exact X1r a a1 a2
    have J : (rowS Y0 (cpN 226 62 (fun i => X.1 225 (62 * (h - 1) + i)) (X.1 220))).2.1 = X.2.1 := X1j
    have e220 : (rowS Y0 (cpN 226 62 (fun i => X.1 225 (62 * (h - 1) + i)) (X.1 220))).1 220 = cpN 226 62 (fun i => X.1 225 (62 * (h - 1) + i)) (X.1 220) := rowS_220
    have e23 : (rowS Y0 (cpN 226 62 (fun i => X.1 225 (62 * (h - 1) + i)) (X.1 220))).1 218 23 = nI (h - 1) := by rw [rowS_ne (by decide)]; exact y23
    have eg : (rowS Y0 (cpN 226 62 (fun i => X.1 225 (62 * (h - 1) + i)) (X.1 220))).2.2 = X.2.2 := X1g
    refine ⟨nI (h - 1), X1, rowS Y0 (cpN 226 62 (fun i => X.1 225 (62 * (h - 1) + i)) (X.1 220)), rfl, ?_, ?_⟩
    · rw [pI_e, gI_e, sI_ne (by decide), X1r 218 (by omega) (by omega), q3, it_f hne, gI_e, sI_ne (by decide), X1r 218 (by omega) (by omega), q3, pI_e, e1]
      exact loop
    · generalize rowS Y0 (cpN 226 62 (fun i => X.1 225 (62 * (h - 1) + i)) (X.1 220)) = Z at F R1 R J e220 e23 eg
      have eP : bP Z 4 = bP X 4 := bB_same (fun a _ _ => R a (by omega) (by omega) (by omega) (by omega))
      have hw : I_w Z := by
        unfold I_w
        rw [eP, show bPJ Z 4 = bPJ X 4 from bL_same (fun a _ _ => by rw [J]), show bQ Z 130 = bQ X 130 from bB_same (fun a _ _ => R a (by omega) (by omega) (by omega) (by omega)), e220, show Z.2.1 223 = X.2.1 223 by rw [J], show bV Z 47 = bV X1 47 from bB_same (fun a _ _ => R1 a (by omega) (by omega))]
        have hf : ∀ k, k < 226 ∨ 288 ≤ k → cpN 226 62 (fun i => X.1 225 (62 * (h - 1) + i)) (X.1 220) k = X.1 220 k := fun k hk => cpN_out (by omega)
        exact ⟨w.l, w.c, w.r.fr w.l hf, w.n, X1v.wfN ok r1, X1v.RW ok (RW.cp ok r3), X1v.wfM ok r2, w.q.fr (fun k hk => hf k (Or.inr hk))⟩
      have hh : I_h Z := by
        refine ⟨h - 1, by omega, by rw [R1 61 (by omega) (by omega)]; exact X1f, e23, by rw [eg]; exact q4, by rw [eg]; exact q5, fun i hi => ?_⟩
        have := q4 i (by omega)
        rw [eP, eg, show bV Z (63 + 7 * X.2.2 i) = bV X (63 + 7 * X.2.2 i) from bB_same (fun a _ _ => R a (by omega) (by omega) (by omega) (by omega)), R 225 (by omega) (by omega) (by omega) (by omega)]
        exact q6 i (by omega)
      refine ⟨?_, ?_, ?_, ?_, ?_, ?_, ?_, ?_, ?_, ?_⟩
      · exact hX.t.of (congrFun (by exact R _ (by omega) (by omega) (by omega) (by omega)) 1) (by exact R _ (by omega) (by omega) (by omega) (by omega)) (by exact F _ (by decide) (by decide)) (by exact R _ (by omega) (by omega) (by omega) (by omega))
      · exact hX.k.of (by rw [J]) (by rw [J])
      · exact hw
      · exact hh
      · exact hX.i.of (fun a ha => by exact R _ (by omega) (by omega) (by omega) (by omega)) (fun a ha => by rw [J])
      · exact hX.b.of (by exact R _ (by omega) (by omega) (by omega) (by omega)) (by exact F _ (by decide) (by decide)) (by exact R _ (by omega) (by omega) (by omega) (by omega))
      · exact hX.c.of (fun a ha => by exact R _ (by omega) (by omega) (by omega) (by omega)) (by exact F _ (by decide) (by decide)) (by exact F _ (by decide) (by decide))
      · exact hX.f.of (fun a ha => by exact R _ (by omega) (by omega) (by omega) (by omega)) (by exact F _ (by decide) (by decide)) (by exact F _ (by decide) (by decide))
      · exact hX.g.of (fun a ha => by exact R _ (by omega) (by omega) (by omega) (by omega)) (by exact F _ (by decide) (by decide))
      · exact hX.o.of (by exact R _ (by omega) (by omega) (by omega) (by omega)) (by exact F _ (by decide) (by decide)) (by exact F _ (by decide) (by decide)) (by exact F _ (by decide) (by decide))
end UN
