/-! the fewest routes to a section: measured by both -/
section ME
variable {P V : m_V} {X : X_}
def pa (P : m_V) (w : Int32) (r : Nat) : Bool := decide (P 10 (P 11 r).toNatClampNeg = w) && decide (¬ P 12 r ≤ 0)
def ph (P : m_V) (τ r : Nat) : Bool := bt (P 14 r) τ
def ps (P : m_V) (r : Nat) : Nat := (P 9 (P 11 r).toNatClampNeg).toNatClampNeg
def pe (P : m_V) (r : Nat) : Nat := (p_endOf P r).toNatClampNeg
def rD (δ : Nat → Nat) (f : Nat → Int32) : Nat → Int32 := fun k => if k < 12 then nI (δ k) else f k
theorem rD_in {δ : Nat → Nat} {f : Nat → Int32} {k : Nat} (h : k < 12) : rD δ f k = nI (δ k) := if_pos h
theorem rD_up {δ : Nat → Nat} {f : Nat → Int32} {k v : Nat} (h : k < 12) : upS (rD δ f) k (nI v) = rD (uN δ k v) f := by
  funext j
  by_cases e : j = k
  · subst e
    rw [upS_eq, rD_in h, uN, if_pos rfl]
  · rw [upS_ne e]
    unfold rD uN
    rw [if_neg e]
theorem pl_g (wL : wfL P) {r : Nat} (hr : r < ct P 4) : ∃ g, g < ct P 3 ∧ P 11 r = nI g ∧ (P 11 r).toNatClampNeg = g ∧ ps P r < ct P 0 ∧ P 9 g = nI (ps P r) := by
  have c3 := wL.ok.c3.2
  have c0 := wL.ok.c0.2
  obtain ⟨⟨g, g1, g2⟩, -⟩ := wL.r r hr
  obtain ⟨⟨c, c1, c2⟩, -⟩ := wL.g g g2
  have eg : (P 11 r).toNatClampNeg = g := by rw [g1, nI_clamp (by omega)]
  have ec : ps P r = c := by unfold ps; rw [eg, c1, nI_clamp (by omega)]
  exact ⟨g, g2, g1, eg, by omega, by rw [ec]; exact c1⟩
theorem pl_e (wL : wfL P) {r : Nat} (hr : r < ct P 4) (h : ¬ P 12 r ≤ 0) : ∃ m, P 12 r = nI (m + 1) ∧ m < 6 ∧ (P 12 r).toNatClampNeg = m + 1 ∧ P 13 (r * 6 + m) = nI (pe P r) ∧ pe P r < ct P 0 ∧ p_endOf P r = nI (pe P r) := by
  have c0 := wL.ok.c0.2
  obtain ⟨-, ⟨m, m1, m2, m3, -⟩, -⟩ := wL.r r hr
  have hm : 1 ≤ m := by
    by_cases z : m = 0
    · subst z; exact absurd (by rw [m1]; decide) h
    · omega
  obtain ⟨c, c1, c2⟩ := m3 (m - 1) (by omega)
  have em : (P 12 r).toNatClampNeg = m := by rw [m1, nI_clamp (by omega)]
  have ee : p_endOf P r = nI c := by
    unfold p_endOf
    rw [if_neg (fun z => h (by rw [z]; decide)), em]
    exact c1
  have ec : pe P r = c := by unfold pe; rw [ee, nI_clamp (by omega)]
  exact ⟨m - 1, by rw [m1]; exact congrArg nI (by omega), by omega, by omega, by rw [ec]; exact c1, by omega, by rw [ec]; exact ee⟩
theorem k_endOf (hP : bP X 4 = P) (wL : wfL P) {r : Nat} (hr : r < ct P 4) : fX5_endOf 4 (nI r) X = some (p_endOf P r, X) := by
  have c4 := wL.ok.c4.2
  have c3 := wL.ok.c3.2
  obtain ⟨g, g1, g2, g3, -⟩ := pl_g wL hr
  obtain ⟨-, ⟨m, m1, m2, -⟩, -⟩ := wL.r r hr
  unfold fX5_endOf
  rw [gd_t, nI_clamp (by omega), hP]
  rw [nI_clamp (by omega), hP, g3]
  have em : (P 12 r).toNatClampNeg = m := by rw [m1, nI_clamp (by omega)]
  rw [em]
  exact ⟨rfl, wL.ok, by omega, m1, m2, g2, by omega⟩
theorem k_cost {δ : Nat → Nat} {f : Nat → Int32} (hP : bP X 4 = P) (wL : wfL P) (hD : X.1 144 = rD δ f) {r τ : Nat} (hr : r < ct P 4) (hτ : τ < 32) (h12 : ¬ P 12 r ≤ 0) : fX1_costOf (nI r) (nI τ) X = some (nI (cst (ph P τ) (pe P) δ r), X) := by
  have c4 := wL.ok.c4.2
  have c0 := wL.ok.c0.2
  obtain ⟨m, -, -, -, -, e2, e3⟩ := pl_e wL hr h12
  unfold fX1_costOf cst ph
  rw [k_P (by omega) (by decide) (by decide), hP, b_tst hτ]
  cases bt (P 14 r) τ
  · rw [it_f (show ¬ b2 false = 1 by decide), ca_s (k_endOf hP wL hr), e3, rA_n (by omega) (by decide), hD, rD_in (by omega), if_neg (by decide), ix_la]; rfl
  · rw [it_t (show b2 true = 1 from rfl), if_pos rfl]; rfl
/-- the passes -/
def pas (a h : Nat → Bool) (s d : Nat → Nat) (R : Nat) (δ : Nat → Nat) : Nat → Nat → Nat
  | 0 => δ
  | i + 1 => lo (sN a h s d) R (pas a h s d R δ i)
theorem pas_LB {a h : Nat → Bool} {s d : Nat → Nat} {R I : Nat} {δ : Nat → Nat} (hL : LB a h s d R I δ) : ∀ i, LB a h s d R I (pas a h s d R δ i) := by
  intro i
  induction i with
  | zero => exact hL
  | succ i ih => exact LB.pass a h s d R ih R (Nat.le_refl _)
theorem pas_UB {a h : Nat → Bool} {s d : Nat → Nat} {R : Nat} {δ : Nat → Nat} : ∀ i, UB a h s d R i (pas a h s d R δ i) := by
  intro i
  induction i with
  | zero => intro k s hk e; rw [show k = 0 by omega] at e; exact absurd e (by rw [rc]; decide)
  | succ i ih => exact UB.pass a h s d R ih
theorem LB_I {a h : Nat → Bool} {s d : Nat → Nat} {R I : Nat} : LB a h s d R I (fun _ => I) := fun _ => ⟨Nat.le_refl _, Or.inl rfl⟩
theorem pick_n {c d : Nat} (hc : c < 2 ^ 31) (hd : d < 2 ^ 31) : (if nI c < nI d then nI c else nI d) = nI (if c < d then c else d) := by
  by_cases e : c < d
  · rw [if_pos e, if_pos ((nI_ltI hc hd).mpr e)]
  · rw [if_neg e, if_neg (fun z => e ((nI_ltI hc hd).mp z))]
theorem cst_le {h : Nat → Bool} {d : Nat → Nat} {δ : Nat → Nat} {I r : Nat} (hI : ∀ s, δ s ≤ I) : cst h d δ r ≤ I + 1 := by
  unfold cst
  have := hI (d r)
  split <;> omega
theorem k_measure (hP : bP X 4 = P) (wL : wfL P) {τ : Nat} (hτ : τ < 32) (w : Int32) : ∃ δ, fX1_measure w (nI τ) X = some ((), setR X 144 (rD δ (X.1 144))) ∧ DN (pa P w) (ph P τ) (ps P) (pe P) (ct P 4) 100 δ := by
  have ok := wL.ok
  have c4 := ok.c4.2
  have c3 := ok.c3.2
  have c0 := ok.c0.2
  refine ⟨pas (pa P w) (ph P τ) (ps P) (pe P) (ct P 4) (fun _ => 100) (ct P 4), ?_, DN_R _ _ _ _ _ (pas_LB LB_I _) (pas_UB _)⟩
  unfold fX1_measure
  rw [ca_s (show fJ7_fill_53178 144 12 100 X = some ((), setR X 144 (rD (fun _ => 100) (X.1 144))) from rfl)]
  have hP' : ∀ D, bP (setR X 144 D) 4 = P := fun D => by rw [← hP]; exact bB_same (fun a h1 h2 => setR_ne (by omega))
  have r4 : ∀ D, (setR X 144 D).1 (4 + 1) 4 = nI (ct P 4) := fun D => by rw [setR_ne (by decide), ← ok.c4.1, ← hP]; rfl
  refine lz1_X (n := ct P 4) (fun i => setR X 144 (rD (pas (pa P w) (ph P τ) (ps P) (pe P) (ct P 4) (fun _ => 100) i) (X.1 144))) (by omega) (fun i L hi => ?_) (fun L => ?_)
  · rw [rA_l (by decide) (by decide), r4, it_f (nI_ge hi (by omega)), nI_1, pas]
    have lb0 := pas_LB (a := pa P w) (h := ph P τ) (s := ps P) (d := pe P) (R := ct P 4) LB_I (I := 100) i
    generalize pas (pa P w) (ph P τ) (ps P) (pe P) (ct P 4) (fun _ => 100) i = δ at lb0
    refine lz1_X (n := ct P 4) (fun r => setR X 144 (rD (lo (sN (pa P w) (ph P τ) (ps P) (pe P)) r δ) (X.1 144))) (by omega) (fun r L' hr => ?_) (fun L' => ?_)
    · have lb := LB.pass _ _ _ _ _ lb0 r (by omega)
      rw [lo]
      generalize lo (sN (pa P w) (ph P τ) (ps P) (pe P)) r δ = δ' at lb
      obtain ⟨g, g1, g2, g3, g4, g5⟩ := pl_g wL hr
      rw [rA_l (by decide) (by decide), r4, it_f (nI_ge hr (by omega)), k_P (by omega) (by decide) (by decide), hP', g2, k_P (by omega) (by decide) (by decide), hP', nI_1]
      unfold sN pa
      rw [g3]
      by_cases c : P 10 g = w
      · rw [it_t c, k_P (by omega) (by decide) (by decide), hP']
        by_cases e : P 12 r ≤ 0
        · rw [it_t e, if_neg (by simp [e])]
        · have cl := cst_le (h := ph P τ) (d := pe P) (r := r) (fun s => (lb s).1)
          have dl := (lb (ps P r)).1
          rw [it_f e, k_P (by omega) (by decide) (by decide), hP', g5, rA_n (by omega) (by decide), setR_eq, rD_in (by omega), ca_s (k_cost (hP' _) wL setR_eq hr hτ e), pick_n (by omega) (by omega), wA_n (by omega) (by decide), setR_s, rD_up (by omega), if_pos (show (decide (P 10 g = w) && decide (¬ P 12 r ≤ 0)) = true by simp [c, e])]
      · rw [it_f c, if_neg (by simp [c])]
    · rw [rA_l (by decide) (by decide), r4, it_t (nI_le (Nat.le_refl _) (by omega))]
  · rw [rA_l (by decide) (by decide), r4, it_t (nI_le (Nat.le_refl _) (by omega))]; rfl
theorem e_endOf (hL : RLa P (X.1 220)) (wL : wfL P) {r : Nat} (hr : r < ct P 4) (h12 : ¬ P 12 r ≤ 0) : fX12_endOf (nI r) X = some (nI (pe P r), X) := by
  have c4 := wL.ok.c4.2
  obtain ⟨m, m1, m2, m3, m4, -⟩ := pl_e wL hr h12
  unfold fX12_endOf
  rw [ix_la, rA_n (by omega) (by decide), hL.r12 hr, m1, ix_lm, ix_la, nI_add, ix_sl (by omega), rA_n (by omega) (by decide), show 126 + 6 * r + (m + 1) - 1 = 126 + 6 * r + m by omega, hL.r13 hr (by omega), m4]; rfl
theorem e_isFrom (hL : RLa P (X.1 220)) (wL : wfL P) {r : Nat} (hr : r < ct P 4) (s w : Int32) : fX12_isFrom (nI r) s w X = some (b2 (pa P w r && decide (nI (ps P r) = s)), X) := by
  have c4 := wL.ok.c4.2
  have c3 := wL.ok.c3.2
  obtain ⟨g, g1, g2, g3, g4, g5⟩ := pl_g wL hr
  unfold fX12_isFrom pa
  rw [ix_la, rA_n (by omega) (by decide), hL.r12 hr, g3]
  by_cases e : P 12 r ≤ 0
  · rw [it_t e]; simp [e]; rfl
  · rw [it_f e, ix_la, rA_n (by omega) (by decide), hL.r11 hr, g2, ix_la, rA_n (by omega) (by decide), hL.g9 g1, g5]
    by_cases c : nI (ps P r) = s
    · rw [it_t c, rA_n (by omega) (by decide), hL.r11 hr, g2, ix_la, rA_n (by omega) (by decide), hL.g10 g1, it_b]
      simp [c, e]
    · rw [it_f c]; simp [c]; rfl
theorem e_wantsBy {δ : Nat → Nat} {f : Nat → Int32} (hL : RLa P (X.1 220)) (wL : wfL P) (hD : X.1 229 = rD δ f) {r τ : Nat} (hr : r < ct P 4) (hτ : τ < 32) (h12 : ¬ P 12 r ≤ 0) : fX12_wantsBy (nI r) (nI τ) X = some (nI (cst (ph P τ) (pe P) δ r), X) := by
  have c0 := wL.ok.c0.2
  obtain ⟨m, -, -, -, -, e2, e3⟩ := pl_e wL hr h12
  unfold fX12_wantsBy cst ph
  rw [ca_s (e_sectionsOf hL wL.ok wL.r hr), ca_s (e_bitOf _ hτ)]
  cases bt (P 14 r) τ
  · rw [it_t (show b2 false = 0 from rfl), ca_s (e_endOf hL wL hr h12), rA_n (by omega) (by decide), hD, rD_in (by omega), if_neg (by decide), ix_la]; rfl
  · rw [it_f (show ¬ b2 true = 0 by decide), if_pos rfl]; rfl
end ME
