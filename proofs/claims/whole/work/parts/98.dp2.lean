/-! the reference's table: one mask -/
section DQ
variable {X : X_}
def rT (R : Nat) (D : Nat → Nat) (f : Nat → Int32) : Nat → Int32 := fun k => if k < 2 ^ R then nI (D k) else f k
theorem rT_in {R : Nat} {D : Nat → Nat} {f : Nat → Int32} {k : Nat} (h : k < 2 ^ R) : rT R D f k = nI (D k) := if_pos h
theorem rT_up {R : Nat} {D : Nat → Nat} {f : Nat → Int32} {k v : Nat} (h : k < 2 ^ R) : upS (rT R D f) k (nI v) = rT R (uN D k v) f := by
  funext j
  by_cases e : j = k
  · subst e
    rw [upS_eq, rT_in h, uN, if_pos rfl]
  · rw [upS_ne e]
    unfold rT uN
    rw [if_neg e]
theorem uN_eq {D : Nat → Nat} {k v : Nat} : uN D k v k = v := if_pos rfl
theorem uN_ne {D : Nat → Nat} {k v j : Nat} (h : ¬ j = k) : uN D k v j = D j := if_neg h
theorem uN_uN {D : Nat → Nat} {k v u : Nat} : uN (uN D k v) k u = uN D k u := by
  funext j
  unfold uN
  split <;> rfl
/-- a part that was tried -/
def trd (D : Nat → Nat) (M l t : Nat) : Prop := ¬ (t ||| l) = M ∧ D (t ||| l) = 1
theorem e_sub {R M m l : Nat} {f : Nat → Int32} {K : RM Int32} {D : Nat → Nat} (hR : R ≤ 10) (hM : M < 2 ^ R) (hl : nI M &&& (-nI M) = nI l) (hlM : l &&& M = l) (l1 : 1 ≤ l) (hm : M ^^^ l = m) (hD : ∀ k, D k ≤ 1000000) : ∃ v, (lz1 (fun L92 x6 => (it (x6 < 0) K (jo0 ((it (x6 = 0) (L92 (-1)) (L92 ((x6 - 1) &&& (nI M ^^^ (nI M &&& (-nI M))))))) (fun J146 => (it ((x6 ||| (nI M &&& (-nI M))) = nI M) J146 (rA 228 1024 (x6 ||| (nI M &&& (-nI M))) fun v7 => (it (v7 = 1) (rA 228 1024 (nI M) fun v8 => (rA 228 1024 (nI M ^^^ (x6 ||| (nI M &&& (-nI M)))) fun v9 => (ca (fX12_lesser v8 (1 + v9)) fun v10 => (wA 228 1024 (nI M) v10 J146)))) J146))))))) FU (nI M ^^^ (nI M &&& (-nI M)))) (setR X 228 (rT R D f)) = K (setR X 228 (rT R (uN D M v) f)) ∧ (v = D M ∨ ∃ t, t &&& m = t ∧ trd D M l t ∧ v = 1 + D (M ^^^ (t ||| l))) ∧ v ≤ D M ∧ ∀ t, t &&& m = t → trd D M l t → v ≤ 1 + D (M ^^^ (t ||| l)) := by
  have pR : 2 ^ R ≤ 1024 := (pow_all R (by omega)).2.2
  have hlR : l < 2 ^ R := by
    have : l ≤ M := by rw [← hlM]; exact Nat.and_le_right
    omega
  have hmR : m < 2 ^ R := by rw [← hm]; exact Nat.xor_lt_two_pow hM hlR
  rw [hl, nI_xor, hm]
  have hpM : ∀ p, 1 ≤ p → ¬ M ^^^ p = M := fun p hp e => by
    have := congrArg (M ^^^ ·) e
    simp only [← Nat.xor_assoc, Nat.xor_self, Nat.zero_xor] at this
    omega
  have step : ∀ s v (L : Int32 → RM Int32), s &&& m = s → v ≤ D M → ∃ v1, (it (nI s < 0) K (jo0 ((it (nI s = 0) (L (-1)) (L ((nI s - 1) &&& nI m)))) (fun J146 => (it ((nI s ||| nI l) = nI M) J146 (rA 228 1024 (nI s ||| nI l) fun v7 => (it (v7 = 1) (rA 228 1024 (nI M) fun v8 => (rA 228 1024 (nI M ^^^ (nI s ||| nI l)) fun v9 => (ca (fX12_lesser v8 (1 + v9)) fun v10 => (wA 228 1024 (nI M) v10 J146)))) J146)))))) (setR X 228 (rT R (uN D M v) f)) = (it (nI s = 0) (L (-1)) (L ((nI s - 1) &&& nI m))) (setR X 228 (rT R (uN D M v1) f)) ∧ (v1 = v ∨ trd D M l s ∧ v1 = 1 + D (M ^^^ (s ||| l))) ∧ v1 ≤ v ∧ (trd D M l s → v1 ≤ 1 + D (M ^^^ (s ||| l))) := fun s v L hs hv => by
    have sm : s < 2 ^ R := by
      have : s ≤ m := by rw [← hs]; exact Nat.and_le_right
      omega
    have hp : s ||| l < 2 ^ R := Nat.or_lt_two_pow sm hlR
    have hp1 : l ≤ s ||| l := Nat.right_le_or
    have hx : M ^^^ (s ||| l) < 2 ^ R := Nat.xor_lt_two_pow hM hp
    have dM := hD M
    have dx := hD (M ^^^ (s ||| l))
    have dp := hD (s ||| l)
    rw [it_f (nI_pos (by omega)), jo0_e, nI_or]
    by_cases e : (s ||| l) = M
    · rw [it_t (by rw [e])]
      exact ⟨v, rfl, Or.inl rfl, Nat.le_refl _, fun h => absurd e h.1⟩
    · rw [it_f (fun z => e ((nI_eq (by omega) (by omega)).mp z)), rA_n (by omega) (by decide), setR_eq, rT_in hp, uN_ne e]
      by_cases d : D (s ||| l) = 1
      · rw [it_t (by rw [d]; rfl), rA_n (by omega) (by decide), setR_eq, rT_in hM, uN_eq, nI_xor, rA_n (by omega) (by decide), setR_eq, rT_in hx, uN_ne (hpM _ (by omega)), ix_la]
        by_cases c : 1 + D (M ^^^ (s ||| l)) ≤ v
        · rw [ca_s (show fX12_lesser (nI v) (nI (1 + D (M ^^^ (s ||| l)))) (setR X 228 (rT R (uN D M v) f)) = some (nI (1 + D (M ^^^ (s ||| l))), _) from it_t ((nI_leI (by omega) (by omega)).mpr c)), wA_n (by omega) (by decide), setR_s, rT_up hM, uN_uN]
          exact ⟨_, rfl, Or.inr ⟨⟨e, d⟩, rfl⟩, c, fun _ => Nat.le_refl _⟩
        · rw [ca_s (show fX12_lesser (nI v) (nI (1 + D (M ^^^ (s ||| l)))) (setR X 228 (rT R (uN D M v) f)) = some (nI v, _) from it_f (fun z => c ((nI_leI (by omega) (by omega)).mp z))), wA_n (by omega) (by decide), setR_s, rT_up hM, uN_uN]
          exact ⟨_, rfl, Or.inl rfl, Nat.le_refl _, fun _ => by omega⟩
      · rw [it_f (show ¬ nI (D (s ||| l)) = 1 from fun z => d ((nI_eq (b := 1) (by omega) (by decide)).mp z))]
        exact ⟨v, rfl, Or.inl rfl, Nat.le_refl _, fun h => absurd h.2 d⟩
  have last : ∀ fu v, 2 < fu → (v = D M ∨ ∃ t, t &&& m = t ∧ trd D M l t ∧ v = 1 + D (M ^^^ (t ||| l))) → v ≤ D M → (∀ t, t &&& m = t → 0 < t → trd D M l t → v ≤ 1 + D (M ^^^ (t ||| l))) → ∃ v', (lz1 (fun L92 x6 => (it (x6 < 0) K (jo0 ((it (x6 = 0) (L92 (-1)) (L92 ((x6 - 1) &&& nI m)))) (fun J146 => (it ((x6 ||| nI l) = nI M) J146 (rA 228 1024 (x6 ||| nI l) fun v7 => (it (v7 = 1) (rA 228 1024 (nI M) fun v8 => (rA 228 1024 (nI M ^^^ (x6 ||| nI l)) fun v9 => (ca (fX12_lesser v8 (1 + v9)) fun v10 => (wA 228 1024 (nI M) v10 J146)))) J146))))))) fu (nI 0)) (setR X 228 (rT R (uN D M v) f)) = K (setR X 228 (rT R (uN D M v') f)) ∧ (v' = D M ∨ ∃ t, t &&& m = t ∧ trd D M l t ∧ v' = 1 + D (M ^^^ (t ||| l))) ∧ v' ≤ D M ∧ ∀ t, t &&& m = t → trd D M l t → v' ≤ 1 + D (M ^^^ (t ||| l)) := by
    intro fu v hf a1 a2 a3
    obtain ⟨fu, rfl⟩ : ∃ g, fu = g + 2 := ⟨fu - 2, by omega⟩
    rw [lz1_s]
    obtain ⟨v1, e1, e2, e3, e4⟩ := step 0 v (lz1 (fun L92 x6 => (it (x6 < 0) K (jo0 ((it (x6 = 0) (L92 (-1)) (L92 ((x6 - 1) &&& nI m)))) (fun J146 => (it ((x6 ||| nI l) = nI M) J146 (rA 228 1024 (x6 ||| nI l) fun v7 => (it (v7 = 1) (rA 228 1024 (nI M) fun v8 => (rA 228 1024 (nI M ^^^ (x6 ||| nI l)) fun v9 => (ca (fX12_lesser v8 (1 + v9)) fun v10 => (wA 228 1024 (nI M) v10 J146)))) J146))))))) (fu + 1)) (Nat.zero_and m) a2
    refine ⟨v1, ?_, ?_, by omega, fun t ht h => ?_⟩
    · rw [e1, it_t (show nI 0 = 0 from rfl), lz1_s, it_t (show (-1 : Int32) < 0 by decide)]
    · rcases e2 with rfl | ⟨h, e⟩
      · exact a1
      · exact Or.inr ⟨0, Nat.zero_and m, h, e⟩
    · by_cases z : t = 0
      · subst z; exact e4 h
      · have := a3 t ht (by omega) h
        omega
  have loop : ∀ n s fu v, s ≤ n → s &&& m = s → n + 2 < fu → (v = D M ∨ ∃ t, t &&& m = t ∧ trd D M l t ∧ v = 1 + D (M ^^^ (t ||| l))) → v ≤ D M → (∀ t, t &&& m = t → s < t → trd D M l t → v ≤ 1 + D (M ^^^ (t ||| l))) → ∃ v', (lz1 (fun L92 x6 => (it (x6 < 0) K (jo0 ((it (x6 = 0) (L92 (-1)) (L92 ((x6 - 1) &&& nI m)))) (fun J146 => (it ((x6 ||| nI l) = nI M) J146 (rA 228 1024 (x6 ||| nI l) fun v7 => (it (v7 = 1) (rA 228 1024 (nI M) fun v8 => (rA 228 1024 (nI M ^^^ (x6 ||| nI l)) fun v9 => (ca (fX12_lesser v8 (1 + v9)) fun v10 => (wA 228 1024 (nI M) v10 J146)))) J146))))))) fu (nI s)) (setR X 228 (rT R (uN D M v) f)) = K (setR X 228 (rT R (uN D M v') f)) ∧ (v' = D M ∨ ∃ t, t &&& m = t ∧ trd D M l t ∧ v' = 1 + D (M ^^^ (t ||| l))) ∧ v' ≤ D M ∧ ∀ t, t &&& m = t → trd D M l t → v' ≤ 1 + D (M ^^^ (t ||| l)) := by
    intro n
    induction n with
    | zero =>
      intro s fu v h1 h2 h3 a1 a2 a3
      obtain rfl : s = 0 := by omega
      exact last fu v (by omega) a1 a2 a3
    | succ n ih =>
      intro s fu v h1 h2 h3 a1 a2 a3
      by_cases z : s = 0
      · subst z; exact last fu v (by omega) a1 a2 a3
      · obtain ⟨fu, rfl⟩ : ∃ g, fu = g + 1 := ⟨fu - 1, by omega⟩
        rw [lz1_s]
        obtain ⟨v1, e1, e2, e3, e4⟩ := step s v (lz1 (fun L92 x6 => (it (x6 < 0) K (jo0 ((it (x6 = 0) (L92 (-1)) (L92 ((x6 - 1) &&& nI m)))) (fun J146 => (it ((x6 ||| nI l) = nI M) J146 (rA 228 1024 (x6 ||| nI l) fun v7 => (it (v7 = 1) (rA 228 1024 (nI M) fun v8 => (rA 228 1024 (nI M ^^^ (x6 ||| nI l)) fun v9 => (ca (fX12_lesser v8 (1 + v9)) fun v10 => (wA 228 1024 (nI M) v10 J146)))) J146))))))) fu) h2 a2
        have sm : s ≤ m := by rw [← h2]; exact Nat.and_le_right
        have sl : (s - 1) &&& m ≤ s - 1 := Nat.and_le_left
        rw [e1, it_f (nI_n0 (by omega) z), show nI s - 1 = nI (s - 1) from ix_sub (c := 1) (by omega), nI_and]
        refine ih ((s - 1) &&& m) fu v1 (by omega) (by rw [Nat.and_assoc, Nat.and_self]) (by omega) ?_ (by omega) (fun t ht hlt h => ?_)
        · rcases e2 with rfl | ⟨h, e⟩
          · exact a1
          · exact Or.inr ⟨s, h2, h, e⟩
        · by_cases c : t < s
          · have := sub_next R m s t hmR h2 ht c
            omega
          · by_cases y : t = s
            · subst y; exact e4 h
            · have := a3 t ht (by omega) h
              omega
  obtain ⟨v, h1, h2, h3, h4⟩ := loop m m FU (D M) (Nat.le_refl _) (Nat.and_self m) (by rw [FU_eq]; omega) (Or.inl rfl) (Nat.le_refl _) (fun t ht h => by
    have : t ≤ m := by rw [← ht]; exact Nat.and_le_right
    omega)
  refine ⟨v, ?_, h2, h3, h4⟩
  rw [← h1]
  have : uN D M (D M) = D := by
    funext j
    unfold uN
    split
    · next e => rw [e]
    · rfl
  rw [this]
end DQ
