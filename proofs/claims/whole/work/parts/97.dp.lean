/-! the reference's table of the fewest classes -/
section DP
variable {P V : m_V} {X : X_}
def KP (P : m_V) (r q : Nat) : Bool := decide (q ≠ r) && p_conflict P r q
theorem pcf_iff (w : okP P) (hC : wfC P) {M : Nat} : p_isPeaceful P (nI M) = true ↔ pcf (KP P) (ct P 4) M := by
  have c4 := w.c4.2
  unfold p_isPeaceful
  rw [al_iff]
  constructor
  · intro h r q hr hq a b
    have h1 := of_decide_eq_true (h r hr)
    rw [b_tst (by omega), bt_nI (by omega), a] at h1
    cases z : KP P r q
    · rfl
    · exfalso
      refine h1 ⟨rfl, fun e => ?_⟩
      rw [b_and0] at e
      refine e q (by omega) ⟨?_, by rw [bt_nI (by omega)]; exact b⟩
      rw [hC r hr, b_bo _ _ (by omega) q (by omega), decide_eq_true hq, Bool.true_and]
      exact z
  · intro h r hr
    refine decide_eq_true ?_
    rw [b_tst (by omega), bt_nI (by omega), b2_1]
    rintro ⟨a, b⟩
    refine b ?_
    rw [b_and0]
    rintro i hi ⟨c, d⟩
    rw [hC r hr, b_bo _ _ (by omega) i hi, Bool.and_eq_true] at c
    rw [bt_nI hi] at d
    have := h r i hr (of_decide_eq_true c.1) a d
    rw [show KP P r i = true from c.2] at this
    exact absurd this (by decide)
theorem KP_irr (P : m_V) (r : Nat) : KP P r r = false := by
  unfold KP
  simp
theorem nI_or (a b : Nat) : nI a ||| nI b = nI (a ||| b) := b_ext (fun i hi => by rw [b_or, bt_nI hi, bt_nI hi, bt_nI hi, Nat.testBit_or])
theorem nI_and (a b : Nat) : nI a &&& nI b = nI (a &&& b) := b_ext (fun i hi => by rw [b_and, bt_nI hi, bt_nI hi, bt_nI hi, Nat.testBit_and])
theorem nI_xor (a b : Nat) : nI a ^^^ nI b = nI (a ^^^ b) := b_ext (fun i hi => by rw [b_xor, bt_nI hi, bt_nI hi, bt_nI hi, Nat.testBit_xor])
/-- the lowest bit of a mask -/
def lwb (M : Nat) : Nat := M &&& (1024 - M)
theorem lwb_all : ∀ M, M < 1024 → M ≠ 0 → nI M &&& (-nI M) = nI (lwb M) ∧ lwb M &&& M = lwb M ∧ 1 ≤ lwb M ∧ lwb M ≤ M ∧ ∃ l, l < 10 ∧ lwb M = 2 ^ l ∧ M.testBit l = true := by decide +kernel
end DP
