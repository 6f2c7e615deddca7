/-! the most that go together -/
section TG
variable {P V : m_V} {X : X_}
theorem bits_step : ∀ k, k < 1024 → k ≠ 0 → nI k &&& (nI k - 1) = nI (k &&& (k - 1)) ∧ k &&& (k - 1) < k ∧ bc (nI k) = bc (nI (k &&& (k - 1))) + 1 := by decide +kernel
theorem e_bits {k : Nat} (hk : k < 1024) : fX12_bits (nI k) X = some (bc (nI k), X) := by
  have h : ∀ m k f a, k ≤ m → k < 1024 → m < f → lz2 (fun L4 x1 x2 => (it (x2 = 0) (re x1) (L4 (x1 + 1) (x2 &&& (x2 - 1))))) f a (nI k) X = some (a + bc (nI k), X) := by
    intro m
    induction m with
    | zero =>
      intro k f a h1 h2 h3
      obtain ⟨f, rfl⟩ : ∃ g, f = g + 1 := ⟨f - 1, by omega⟩
      obtain rfl : k = 0 := by omega
      rw [lz2_s, it_t (show nI 0 = 0 from rfl), show bc (nI 0) = 0 by decide +kernel, Int32.add_zero]; rfl
    | succ m ih =>
      intro k f a h1 h2 h3
      obtain ⟨f, rfl⟩ : ∃ g, f = g + 1 := ⟨f - 1, by omega⟩
      by_cases c : k = 0
      · subst c
        rw [lz2_s, it_t (show nI 0 = 0 from rfl), show bc (nI 0) = 0 by decide +kernel, Int32.add_zero]; rfl
      · obtain ⟨a1, a2, a3⟩ := bits_step k h2 c
        rw [lz2_s, it_f (show ¬ nI k = 0 from fun e => c ((nI_eq (b := 0) (by omega) (by decide)).mp e)), a1, ih _ f _ (by omega) (by omega) (by omega), a3, Int32.add_assoc, Int32.add_comm 1]
  have := h k k FU 0 (Nat.le_refl _) hk (by rw [FU_eq]; omega)
  rw [Int32.zero_add] at this
  exact this
theorem e_areTog (hL : RLa P (X.1 220)) (w : okP P) (hR : wfR P) (hC : wfC P) (s : Int32) : fX12_areTogether s X = some (b2 (p_isPeaceful P s), X) := by
  have c4 := w.c4.2
  unfold fX12_areTogether p_isPeaceful
  generalize hp : (fun r => decide (¬ ((s >>> (nI r &&& 31)) &&& 1 = 1 ∧ ¬ P 18 r &&& s = 0))) = p
  have hpr : ∀ r, p r = decide (¬ ((s >>> (nI r &&& 31)) &&& 1 = 1 ∧ ¬ P 18 r &&& s = 0)) := fun r => by rw [← hp]
  refine lz2_post (n := ct P 4) (fun i x Z => Z = X ∧ x = b2 (al p i)) (fun o => o = some (b2 (al p (ct P 4)), X)) (fun x Z L hI => ?_) (fun i x Z L hi hI ih => ?_) (ct P 4) 0 FU 1 X (by omega) (by rw [FU_eq]; omega) ⟨rfl, rfl⟩
  · obtain ⟨rfl, rfl⟩ := hI
    rw [rA_l (by decide) (by decide), hL.n4 w, it_t (nI_le (Nat.le_refl _) (by omega))]
    exact rz_b _
  · obtain ⟨rfl, rfl⟩ := hI
    rw [rA_l (by decide) (by decide), hL.n4 w, it_f (nI_ge hi (by omega))]
    by_cases q : al p i = true
    · have al1 : al p (i + 1) = p i := by
        cases z : p i
        · rw [← Bool.not_eq_true]
          intro e
          have := (al_iff _).mp e i (by omega)
          rw [z] at this
          exact absurd this (by decide)
        · exact (al_iff _).mpr (fun j hj => by
            by_cases e : j = i
            · subst e; exact z
            · exact (al_iff _).mp q j (by omega))
      rw [it_f (by rw [q]; decide), ca_s (e_bitOf _ (by omega))]
      have hb := hpr i
      rw [b_tst (by omega)] at hb
      cases z : bt s i
      · rw [it_t (show b2 false = 0 from rfl), nI_1]
        refine ih _ _ ⟨rfl, ?_⟩
        rw [al1, hb, z]
        rfl
      · rw [it_f (show ¬ b2 true = 0 by decide), ca_s (e_conflictsOf hL w hR hC hi)]
        by_cases y : P 18 i &&& s = 0
        · rw [it_t y, nI_1]
          refine ih _ _ ⟨rfl, ?_⟩
          rw [al1, hb]
          simp [y]; rfl
        · rw [it_f y, nI_1]
          refine ih _ _ ⟨rfl, ?_⟩
          rw [al1, hb, z, decide_eq_false (fun q => q ⟨rfl, y⟩)]
          rfl
    · have q' : al p i = false := by simpa using q
      rw [it_t (by rw [q']; rfl), q', rz_b]
      have : al p (ct P 4) = false := by
        rw [← Bool.not_eq_true]
        exact fun e => q ((al_iff _).mpr (fun j hj => (al_iff _).mp e j (by omega)))
      rw [this]
theorem pow_all : ∀ n, n < 11 → (1 : Int32) <<< (nI n &&& 31) = nI (2 ^ n) ∧ 1 ≤ 2 ^ n ∧ 2 ^ n ≤ 1024 := by decide +kernel
def tgF (P : m_V) (i : Nat) (b : Int32) : Int32 := if decide (bc b < bc (nI i)) && p_isPeaceful P (nI i) then nI i else b
theorem tgF_n (P : m_V) : ∀ n, ∃ k, k ≤ n ∧ lo (tgF P) n 0 = nI k := by
  intro n
  induction n with
  | zero => exact ⟨0, Nat.le_refl _, rfl⟩
  | succ n ih =>
    obtain ⟨k, h1, h2⟩ := ih
    rw [lo, tgF]
    split
    · exact ⟨n, by omega, rfl⟩
    · exact ⟨k, by omega, h2⟩
theorem sim_together : Sim fX11_together fX12_together := fun X hX => by
  have w := hX.w
  have ok := w.ok
  have c4 := ok.c4.2
  obtain ⟨p1, p2, p3⟩ := pow_all (ct (bP X 4) 4) (by omega)
  obtain ⟨b, hb, eb⟩ := tgF_n (bP X 4) (2 ^ ct (bP X 4) 4)
  have et : p_mostTogether (bP X 4) = lo (tgF (bP X 4)) (2 ^ ct (bP X 4) 4) 0 := rfl
  have hb2 : b < 1024 := by
    by_cases c : b = 1024
    · exfalso
      have : ∀ n, n ≠ 0 → ∃ k, k < n ∧ lo (tgF (bP X 4)) n 0 = nI k := fun n hn => by
        obtain ⟨m, rfl⟩ : ∃ m, n = m + 1 := ⟨n - 1, by omega⟩
        obtain ⟨k, h1, h2⟩ := tgF_n (bP X 4) m
        rw [lo, tgF]
        split
        · exact ⟨m, by omega, rfl⟩
        · exact ⟨k, by omega, h2⟩
      obtain ⟨k, k1, k2⟩ := this (2 ^ ct (bP X 4) 4) (by omega)
      rw [eb] at k2
      have := (nI_eq (by omega) (by omega)).mp k2
      omega
    · omega
  let X1 : X_ := sI X 0 14 (nI b)
  have h220 : (sI X1 218 0 0).1 220 = X.1 220 := by rw [sI_row (by decide)]; exact sI_row (by decide)
  have hL : RLa (bP X 4) ((sI X1 218 0 0).1 220) := by rw [h220]; exact w.r
  refine ⟨bc (nI b), X1, sI (sI (sI X1 218 0 0) 218 28 1) 218 27 (nI b), ?_, ?_, ?_⟩
  · unfold fX11_together
    rw [ca_s (show fX5_mostTogether 4 X = some (nI b, X) by rw [← eb, ← et]; exact gd_t ok), pI_e, gI_e, sI_eq]
    exact ca_s rfl
  · unfold fX12_together
    rw [pI_e]
    have a1 : lo (tgF (bP X 4)) 1 0 = 0 := by
      rw [lo, lo, tgF, if_neg]
      rw [Bool.and_eq_true]
      intro e
      have := of_decide_eq_true e.1
      exact absurd this (by decide +kernel)
    have := lz2_from (B := (fun L9 x1 x2 => (rA 220 469 4 fun v3 => (it ((1 <<< (v3 &&& 31)) ≤ x2) (pI 218 28 1 (pI 218 27 x1 (ca (fX12_bits x1) fun v4 => (re v4)))) (ca (fX12_bits x2) fun v5 => (ca (fX12_bits x1) fun v6 => (it (v5 ≤ v6) (L9 x1 (x2 + 1)) (ca (fX12_areTogether x2) fun v7 => (it (v7 = 0) (L9 x1 (x2 + 1)) (L9 x2 (x2 + 1)))))))))) ) (fun i => lo (tgF (bP X 4)) i 0) (fun _ => sI X1 218 0 0) (n := 2 ^ ct (bP X 4) 4) (E := some (bc (nI b), sI (sI (sI X1 218 0 0) 218 28 1) 218 27 (nI b))) (fun i L hi => ?_) (fun L => ?_) (2 ^ ct (bP X 4) 4 - 1) 1 FU (by omega) (by rw [FU_eq]; omega)
    · rw [a1] at this
      exact this
    · obtain ⟨k, k1, k2⟩ := tgF_n (bP X 4) i
      rw [rA_l (by decide) (by decide), hL.n4 ok, p1, it_f (nI_ge hi (by omega)), ca_s (e_bits (by omega)), k2, ca_s (e_bits (by omega)), nI_1, lo, k2, tgF]
      by_cases q : bc (nI k) < bc (nI i)
      · rw [it_f (fun e => Int32.not_le.mpr q e), ca_s (e_areTog hL ok w.l.r w.c _), decide_eq_true q]
        cases p_isPeaceful (bP X 4) (nI i)
        · rw [it_t (show b2 false = 0 from rfl)]; rfl
        · rw [it_f (show ¬ b2 true = 0 by decide)]; rfl
      · rw [it_t (Int32.not_lt.mp q), decide_eq_false q]; rfl
    · rw [rA_l (by decide) (by decide), hL.n4 ok, p1, it_t (nI_le (Nat.le_refl _) (by omega)), eb, pI_e, pI_e, ca_s (e_bits hb2)]
      rfl
  · have R : ∀ q, ¬ q = 0 → ¬ q = 218 → (sI (sI (sI X1 218 0 0) 218 28 1) 218 27 (nI b)).1 q = X.1 q := fun q q1 q2 => by rw [sI_row q2, sI_row q2, sI_row q2]; exact sI_row q1
    have R0 : ∀ q, ¬ q = 14 → (sI (sI (sI X1 218 0 0) 218 28 1) 218 27 (nI b)).1 0 q = X.1 0 q := fun q q1 => by rw [sI_row (by decide), sI_row (by decide), sI_row (by decide)]; exact sI_ne (by omega)
    have F : ∀ q, ¬ q = 0 → ¬ q = 27 → ¬ q = 28 → (sI (sI (sI X1 218 0 0) 218 28 1) 218 27 (nI b)).1 218 q = X.1 218 q := fun q q0 q1 q2 => by rw [sI_ne (by omega), sI_ne (by omega), sI_ne (by omega)]; exact congrFun (sI_row (by decide)) q
    have ho : I_o (sI (sI (sI X1 218 0 0) 218 28 1) 218 27 (nI b)) := by
      refine ⟨?_, ?_⟩
      · rw [R0 13 (by decide), F 15 (by decide) (by decide) (by decide)]
        exact hX.o.1
      · have e1 : (sI (sI (sI X1 218 0 0) 218 28 1) 218 27 (nI b)).1 0 14 = nI b := by
          rw [sI_row (by decide), sI_row (by decide), sI_row (by decide)]; exact sI_eq
        have e2 : (sI (sI (sI X1 218 0 0) 218 28 1) 218 27 (nI b)).1 218 28 = 1 := by rw [sI_ne (by omega), sI_eq]
        have e3 : (sI (sI (sI X1 218 0 0) 218 28 1) 218 27 (nI b)).1 218 27 = nI b := sI_eq
        rw [e1, e2, e3, if_neg (by decide)]
    refine ⟨?_, ?_, ?_, ?_, ?_, ?_, ?_, ?_, ?_, ?_⟩
    · exact hX.t.of (congrFun (by exact R _ (by omega) (by omega)) 1) (by exact R _ (by omega) (by omega)) (by exact F _ (by decide) (by decide) (by decide)) (by exact R _ (by omega) (by omega))
    · exact hX.k.of (by rfl) (by rfl)
    · exact hX.w.of (fun a ha => by exact R _ (by omega) (by omega)) (fun a ha => by rfl)
    · exact hX.h.of (fun a ha => by exact R _ (by omega) (by omega)) (by exact F _ (by decide) (by decide) (by decide)) rfl
    · exact hX.i.of (fun a ha => by exact R _ (by omega) (by omega)) (fun a ha => by rfl)
    · exact hX.b.of (by exact R _ (by omega) (by omega)) (by exact F _ (by decide) (by decide) (by decide)) (by exact R _ (by omega) (by omega))
    · exact hX.c.of (fun a ha => by exact R _ (by omega) (by omega)) (by exact F _ (by decide) (by decide) (by decide)) (by exact F _ (by decide) (by decide) (by decide))
    · exact hX.f.of (fun a ha => by exact R _ (by omega) (by omega)) (by exact F _ (by decide) (by decide) (by decide)) (by exact F _ (by decide) (by decide) (by decide))
    · exact hX.g.of (fun a ha => by exact R _ (by omega) (by omega)) (by exact F _ (by decide) (by decide) (by decide))
    · exact ho
end TG
