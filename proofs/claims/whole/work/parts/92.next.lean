/-! the path: both -/
section PT
variable {P V : m_V} {X : X_}
theorem ff_case {p : Nat → Bool} : ∀ m i, (ff p i m = -1 ∧ ∀ j, i ≤ j → j < i + m → p j = false) ∨ ∃ j, i ≤ j ∧ j < i + m ∧ p j = true ∧ ff p i m = nI j ∧ ∀ q, i ≤ q → q < j → p q = false := by
  intro m
  induction m with
  | zero => intro i; exact Or.inl ⟨rfl, fun j h1 h2 => by omega⟩
  | succ m ih =>
    intro i
    rw [ff]
    by_cases c : p i = true
    · rw [if_pos c]
      exact Or.inr ⟨i, by omega, by omega, c, rfl, fun q h1 h2 => by omega⟩
    · rw [if_neg c]
      have c' : p i = false := by simpa using c
      rcases ih (i + 1) with ⟨h1, h2⟩ | ⟨j, j1, j2, j3, j4, j5⟩
      · refine Or.inl ⟨h1, fun j a b => ?_⟩
        by_cases e : j = i
        · subst e; exact c'
        · exact h2 j (by omega) (by omega)
      · refine Or.inr ⟨j, by omega, by omega, j3, j4, fun q a b => ?_⟩
        by_cases e : q = i
        · subst e; exact c'
        · exact j5 q (by omega) b
theorem ff_1st {p : Nat → Bool} {n r : Nat} (hr : r < n) (hn : n < 2 ^ 31) (h : p r = true) (h2 : ∀ q, q < r → p q = false) : ff p 0 n = nI r := by
  rcases ff_case (p := p) n 0 with ⟨-, z⟩ | ⟨j, -, j2, j3, j4, j5⟩
  · rw [z r (by omega) (by omega)] at h; exact absurd h (by decide)
  · rw [j4]
    by_cases e : j < r
    · rw [h2 j e] at j3; exact absurd j3 (by decide)
    · by_cases e2 : r < j
      · rw [j5 r (by omega) e2] at h; exact absurd h (by decide)
      · exact congrArg nI (by omega)
theorem least {p : Nat → Bool} : ∀ n, (∃ r, r < n ∧ p r = true) → ∃ r, r < n ∧ p r = true ∧ ∀ q, q < r → p q = false := by
  intro n
  induction n with
  | zero => rintro ⟨r, h, -⟩; omega
  | succ n ih =>
    rintro ⟨r, hr, h⟩
    by_cases c : ∃ r, r < n ∧ p r = true
    · obtain ⟨q, q1, q2, q3⟩ := ih c
      exact ⟨q, by omega, q2, q3⟩
    · refine ⟨r, hr, h, fun q hq => ?_⟩
      cases z : p q
      · rfl
      · exact absurd ⟨q, by omega, z⟩ c
/-- a route that can be the next from s, k of them wanting -/
def sel (P : m_V) (w : Int32) (τ : Nat) (δ : Nat → Nat) (s k r : Nat) : Bool := pa P w r && (decide (ps P r = s) && decide (cst (ph P τ) (pe P) δ r = k))
theorem sig_iff (wL : wfL P) {r s : Nat} (hr : r < ct P 4) (hs : s < 12) (w : Int32) : (P 11 r = p_signalAt P (nI s) w) ↔ (ps P r = s ∧ P 10 (P 11 r).toNatClampNeg = w) := by
  have c3 := wL.ok.c3.2
  have c0 := wL.ok.c0.2
  obtain ⟨g, g1, g2, g3, g4, g5⟩ := pl_g wL hr
  rw [g3, g2]
  unfold p_signalAt
  rcases ff_case (p := fun g => decide (P 9 g = nI s ∧ P 10 g = w)) (ct P 3) 0 with ⟨e, z⟩ | ⟨j, -, j2, j3, j4, -⟩
  · rw [e]
    constructor
    · intro h; exact absurd h (nI_m1 (by omega))
    · intro h
      have := z g (by omega) (by omega)
      exact absurd (of_decide_eq_false this) (fun q => q ⟨by rw [g5, h.1], h.2⟩)
  · rw [j4]
    have hj := of_decide_eq_true j3
    constructor
    · intro h
      have e : g = j := (nI_eq (by omega) (by omega)).mp h
      subst e
      have := hj.1
      rw [g5] at this
      exact ⟨(nI_eq (by omega) (by omega)).mp this, hj.2⟩
    · intro h
      exact congrArg nI ((wL.g j (by omega)).2.2 g g1 (by rw [g5, hj.1, h.1]) (by rw [hj.2, h.2]))
theorem k_least1 {δ : Nat → Nat} {f : Nat → Int32} (hP : bP X 4 = P) (wL : wfL P) (hD : X.1 144 = rD δ f) (hδ : ∀ s, δ s ≤ 100) {s τ r : Nat} (hs : s < 12) (hτ : τ < 32) (w : Int32) (hr : r < ct P 4) (h : sel P w τ δ s (δ s) r = true) (h2 : ∀ q, q < r → sel P w τ δ s (δ s) q = false) : fX1_leastStep (nI s) w (nI τ) X = some (nI r, X) := by
  have ok := wL.ok
  have c4 := ok.c4.2
  have hsg : fX5_signalAt 4 (nI s) w X = some (p_signalAt P (nI s) w, X) := by rw [← hP]; exact gd_t (by rw [hP]; exact ok)
  have r4 : X.1 (4 + 1) 4 = nI (ct P 4) := by rw [← ok.c4.1, ← hP]; rfl
  unfold fX1_leastStep
  rw [ca_s hsg]
  have := lz1_ff (X := X) (B := (fun L11 x2 => (rA (4 + 1) 8 4 fun v3 => (it (v3 ≤ x2) (re (-1)) (rA (4 + 11) 10 x2 fun v4 => (it (v4 = p_signalAt P (nI s) w) (rA (4 + 12) 10 x2 fun v5 => (it (v5 ≤ 0) (L11 (x2 + 1)) (ca (fX1_costOf x2 (nI τ)) fun v6 => (rA 144 12 (nI s) fun v7 => (it (v6 = v7) (re x2) (L11 (x2 + 1))))))) (L11 (x2 + 1)))))))) (sel P w τ δ s (δ s)) (n := ct P 4) (by omega) (fun i L hi => ?_) (fun L => ?_)
  · rw [this, ff_1st hr (by omega) h h2]
  · rw [rA_l (by decide) (by decide), r4, it_f (nI_ge hi (by omega)), k_P (by omega) (by decide) (by decide), hP, nI_1]
    unfold sel pa
    by_cases c : P 11 i = p_signalAt P (nI s) w
    · have c' := (sig_iff wL hi hs w).mp c
      rw [it_t c, k_P (by omega) (by decide) (by decide), hP]
      by_cases e : P 12 i ≤ 0
      · rw [it_t e, if_neg (by simp [e])]
      · have cl := cst_le (h := ph P τ) (d := pe P) (r := i) hδ
        have dl := hδ s
        rw [it_f e, ca_s (k_cost hP wL hD hi hτ e), rA_n (by omega) (by decide), hD, rD_in hs]
        by_cases d : cst (ph P τ) (pe P) δ i = δ s
        · rw [it_t (by rw [d]), if_pos (by simp [c'.1, c'.2, e, d])]; rfl
        · rw [it_f (fun z => d ((nI_eq (by omega) (by omega)).mp z)), if_neg (by simp [d])]
    · rw [it_f c, if_neg]
      intro z
      simp only [Bool.and_eq_true, decide_eq_true_eq] at z
      exact c ((sig_iff wL hi hs w).mpr ⟨z.2.1, z.1.1⟩)
  · rw [rA_l (by decide) (by decide), r4, it_t (nI_le (Nat.le_refl _) (by omega))]; rfl
/-- the reference's search for the next, with what comes behind -/
theorem e_next {ε : Nat → Nat} {f : Nat → Int32} {α : Type} {K : Int32 → RM α} (hL : RLa P (X.1 220)) (wL : wfL P) (hD : X.1 229 = rD ε f) (hε : ∀ s, ε s ≤ 1000000) {s τ r k : Nat} (hs : s < 12) (hk : k < 100) (hτ : τ < 32) (w : Int32) (hr : r < ct P 4) (h : sel P w τ ε s k r = true) (h2 : ∀ q, q < r → sel P w τ ε s k q = false) : (lz1 (fun L114 x9 => (ca (fX12_isFrom x9 (nI s) w) fun v10 => (it (v10 = 0) (L114 (x9 + 1)) (ca (fX12_wantsBy x9 (nI τ)) fun v11 => (it (v11 = nI k) (K x9) (L114 (x9 + 1))))))) FU 0) X = K (nI r) X := by
  have ok := wL.ok
  have c4 := ok.c4.2
  have c0 := ok.c0.2
  have body : ∀ (L : Int32 → RM α) i, i < ct P 4 → (ca (fX12_isFrom (nI i) (nI s) w) fun v10 => (it (v10 = 0) (L (nI i + 1)) (ca (fX12_wantsBy (nI i) (nI τ)) fun v11 => (it (v11 = nI k) (K (nI i)) (L (nI i + 1)))))) X = if sel P w τ ε s k i = true then K (nI i) X else L (nI (i + 1)) X := fun L i hi => by
    obtain ⟨g, g1, g2, g3, g4, g5⟩ := pl_g wL hi
    rw [ca_s (e_isFrom hL wL hi _ _), nI_1]
    unfold sel
    cases ha : pa P w i
    · rw [Bool.false_and, it_t (show b2 false = 0 from rfl), Bool.false_and, if_neg (by decide)]
    · have h12 : ¬ P 12 i ≤ 0 := by
        unfold pa at ha
        rw [Bool.and_eq_true] at ha
        exact of_decide_eq_true ha.2
      rw [Bool.true_and, Bool.true_and]
      by_cases e : ps P i = s
      · have cl := cst_le (h := ph P τ) (d := pe P) (r := i) hε
        rw [decide_eq_true (show nI (ps P i) = nI s by rw [e]), it_f (show ¬ b2 true = 0 by decide), ca_s (e_wantsBy hL wL hD hi hτ h12), decide_eq_true e, Bool.true_and]
        by_cases d : cst (ph P τ) (pe P) ε i = k
        · rw [it_t (by rw [d]), if_pos (decide_eq_true d)]
        · rw [it_f (fun z => d ((nI_eq (by omega) (by omega)).mp z)), if_neg (by simp [d])]
      · rw [decide_eq_false (show ¬ nI (ps P i) = nI s from fun z => e ((nI_eq (by omega) (by omega)).mp z)), it_t (show b2 false = 0 from rfl), decide_eq_false e, Bool.false_and, if_neg (by decide)]
  have loop : ∀ m i fu, i + m = r → m < fu → lz1 (fun L114 x9 => (ca (fX12_isFrom x9 (nI s) w) fun v10 => (it (v10 = 0) (L114 (x9 + 1)) (ca (fX12_wantsBy x9 (nI τ)) fun v11 => (it (v11 = nI k) (K x9) (L114 (x9 + 1))))))) fu (nI i) X = K (nI r) X := by
    intro m
    induction m with
    | zero =>
      intro i fu hi hf
      obtain ⟨fu, rfl⟩ : ∃ g, fu = g + 1 := ⟨fu - 1, by omega⟩
      obtain rfl : i = r := by omega
      rw [lz1_s, body _ i hr, if_pos h]
    | succ m ih =>
      intro i fu hi hf
      obtain ⟨fu, rfl⟩ : ∃ g, fu = g + 1 := ⟨fu - 1, by omega⟩
      rw [lz1_s, body _ i (by omega), if_neg (by rw [h2 i (by omega)]; decide)]
      exact ih (i + 1) fu (by omega) (by omega)
  exact loop r 0 FU (by omega) (by rw [FU_eq]; omega)
end PT
