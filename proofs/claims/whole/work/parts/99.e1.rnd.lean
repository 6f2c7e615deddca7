/-! the reference's table: the loop over masks -/
section DS
variable {P V : m_V} {X : X_}
theorem e_dp2 (w : okP P) (hC : wfC P) (f : Nat → Int32) : ∃ a D, (lz1 (fun L60 x3 => (it (((1 <<< (nI (ct P 4) &&& 31)) - 1) < x3) (rA 228 1024 ((1 <<< (nI (ct P 4) &&& 31)) - 1) fun v4 => (re v4)) (rA 228 1024 x3 fun v5 => (it (v5 = 1) (L60 (x3 + 1)) (lz1 (fun L92 x6 => (it (x6 < 0) (L60 (x3 + 1)) (jo0 ((it (x6 = 0) (L92 (-1)) (L92 ((x6 - 1) &&& (x3 ^^^ (x3 &&& (-x3))))))) (fun J146 => (it ((x6 ||| (x3 &&& (-x3))) = x3) J146 (rA 228 1024 (x6 ||| (x3 &&& (-x3))) fun v7 => (it (v7 = 1) (rA 228 1024 x3 fun v8 => (rA 228 1024 (x3 ^^^ (x6 ||| (x3 &&& (-x3)))) fun v9 => (ca (fX12_lesser v8 (1 + v9)) fun v10 => (wA 228 1024 x3 v10 J146)))) J146))))))) FU (x3 ^^^ (x3 &&& (-x3)))))))) FU 1) (setR X 228 (rT (ct P 4) (t0 P) f)) = some (nI a, setR X 228 (rT (ct P 4) D f)) ∧ FN (KP P) (ct P 4) (2 ^ ct P 4 - 1) a ∧ a ≤ 1000000 := by
  have c4 := w.c4.2
  obtain ⟨p1, p2, p3⟩ := pow_all (ct P 4) (by omega)
  rw [p1, show nI (2 ^ ct P 4) - 1 = nI (2 ^ ct P 4 - 1) from ix_sub (c := 1) p2]
  have t0le : ∀ k, t0 P k ≤ 1000000 := fun k => by unfold t0; split <;> (try split) <;> omega
  refine lz1_post (n := 2 ^ ct P 4) (fun i Z => 1 ≤ i ∧ ∃ D, Z = setR X 228 (rT (ct P 4) D f) ∧ (∀ k, k < i → FN (KP P) (ct P 4) k (D k)) ∧ (∀ k, i ≤ k → D k = t0 P k) ∧ ∀ k, D k ≤ 1000000) (fun o => ∃ a D, o = some (nI a, setR X 228 (rT (ct P 4) D f)) ∧ FN (KP P) (ct P 4) (2 ^ ct P 4 - 1) a ∧ a ≤ 1000000) (fun Z L hI => ?_) (fun i Z L hi hI ih => ?_) (2 ^ ct P 4 - 1) 1 FU (setR X 228 (rT (ct P 4) (t0 P) f)) (by omega) (by rw [FU_eq]; omega) ⟨Nat.le_refl _, t0 P, rfl, fun k hk => ?_, fun k _ => rfl, t0le⟩
  · obtain ⟨-, D, rfl, h1, -, h3⟩ := hI
    refine ⟨D (2 ^ ct P 4 - 1), D, ?_, h1 _ (by omega), h3 _⟩
    rw [it_t ((nI_ltI (by omega) (by omega)).mpr (by omega)), rA_n (by omega) (by decide), setR_eq, rT_in (by omega)]
    rfl
  · obtain ⟨i1, D, rfl, h1, h2, h3⟩ := hI
    rw [it_f (nI_nlt (by omega) (by omega)), rA_n (by omega) (by decide), setR_eq, rT_in hi]
    have hDi := h2 i (Nat.le_refl _)
    have ti : t0 P i = if p_isPeaceful P (nI i) = true then 1 else 1000000 := if_neg (by omega)
    by_cases c : p_isPeaceful P (nI i) = true
    · rw [if_pos c] at ti
      rw [it_t (show nI (D i) = 1 by rw [hDi, ti]; rfl), nI_1]
      refine ih _ ⟨by omega, D, rfl, fun k hk => ?_, fun k hk => h2 k (by omega), h3⟩
      by_cases e : k = i
      · subst e
        rw [hDi, ti]
        exact ⟨col_1 _ _ ((pcf_iff w hC).mp c), fun m hm => col_pos _ _ hi (by omega) hm⟩
      · exact h1 k (by omega)
    · rw [if_neg c] at ti
      rw [it_f (show ¬ nI (D i) = 1 from fun e => by
        have := (nI_eq (b := 1) (by have := h3 i; omega) (by decide)).mp e
        omega)]
      obtain ⟨l1, l2, l3, l4, l0, l5, l6, l7⟩ := lwb_all i (by omega) (by omega)
      rw [nI_1]
      obtain ⟨v, e1, e2, e3, e4⟩ := e_sub (X := X) (f := f) (K := L (nI (i + 1))) (by omega) hi l1 l2 l3 (m := i ^^^ lwb i) rfl h3
      rw [e1]
      have hl0 : l0 < ct P 4 := by
        have : 2 ^ l0 < 2 ^ ct P 4 := by omega
        exact (Nat.pow_lt_pow_iff_right (by decide)).mp this
      rw [l6] at e2 e4
      have fn : FN (KP P) (ct P 4) i v := FN_step (KP_irr P) (by omega) hi hl0 l7 (fun e => c ((pcf_iff w hC).mpr e)) h1 (by rw [← ti, ← hDi]; exact e2) e4
      refine ih _ ⟨by omega, uN D i v, rfl, fun k hk => ?_, fun k hk => ?_, fun k => ?_⟩
      · by_cases e : k = i
        · subst e; rw [uN_eq]; exact fn
        · rw [uN_ne e]; exact h1 k (by omega)
      · rw [uN_ne (by omega)]; exact h2 k (by omega)
      · by_cases e : k = i
        · subst e; rw [uN_eq]; have := h3 k; omega
        · rw [uN_ne e]; exact h3 k
  · obtain rfl : k = 0 := by omega
    exact ⟨⟨fun _ => 0, fun r _ h => by rw [Nat.zero_testBit] at h; exact absurd h (by decide), fun r q _ _ h => by rw [Nat.zero_testBit] at h; exact absurd h (by decide)⟩, fun _ _ => Nat.zero_le _⟩
end DS
