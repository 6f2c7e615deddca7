/-! the reference's table of the fewest classes -/
section DP
variable {P V : m_V} {X : X_}
def KP (P : m_V) (r q : Nat) : Bool := decide (q ≠ r) && p_conflict P r q
theorem pcf_iff (w : okP P) (hC : wfC P) {M : Nat} : p_isPeaceful P (nI M) = true ↔ pcf (KP P) (ct P 4) M := by
  have c4 := w.c4.2
  unfold p_isPeaceful
  rw [al_iff]
  constructor
  · intro h r q hr hq a b
    have h1 := of_decide_eq_true (h r hr)
    rw [b_tst (by omega), bt_nI (by omega), a] at h1
    cases z : KP P r q
    · rfl
    · exfalso
      refine h1 ⟨rfl, fun e => ?_⟩
      rw [b_and0] at e
      refine e q (by omega) ⟨?_, by rw [bt_nI (by omega)]; exact b⟩
      rw [hC r hr, b_bo _ _ (by omega) q (by omega), decide_eq_true hq, Bool.true_and]
      exact z
  · intro h r hr
    refine decide_eq_true ?_
    rw [b_tst (by omega), bt_nI (by omega), b2_1]
    rintro ⟨a, b⟩
    refine b ?_
    rw [b_and0]
    rintro i hi ⟨c, d⟩
    rw [hC r hr, b_bo _ _ (by omega) i hi, Bool.and_eq_true] at c
    rw [bt_nI hi] at d
    have := h r i hr (of_decide_eq_true c.1) a d
    rw [show KP P r i = true from c.2] at this
    exact absurd this (by decide)
theorem KP_irr (P : m_V) (r : Nat) : KP P r r = false := by
  unfold KP
  simp
theorem nI_or (a b : Nat) : nI a ||| nI b = nI (a ||| b) := b_ext (fun i hi => by rw [b_or, bt_nI hi, bt_nI hi, bt_nI hi, Nat.testBit_or])
theorem nI_and (a b : Nat) : nI a &&& nI b = nI (a &&& b) := b_ext (fun i hi => by rw [b_and, bt_nI hi, bt_nI hi, bt_nI hi, Nat.testBit_and])
theorem nI_xor (a b : Nat) : nI a ^^^ nI b = nI (a ^^^ b) := b_ext (fun i hi => by rw [b_xor, bt_nI hi, bt_nI hi, bt_nI hi, Nat.testBit_xor])
/-- the lowest bit of a mask -/
def lwb (M : Nat) : Nat := M &&& (1024 - M)
theorem lwb_all : ∀ M, M < 1024 → M ≠ 0 → nI M &&& (-nI M) = nI (lwb M) ∧ lwb M &&& M = lwb M ∧ 1 ≤ lwb M ∧ lwb M ≤ M ∧ ∃ l, l < 10 ∧ lwb M = 2 ^ l ∧ M.testBit l = true := by decide +kernel
def t0 (P : m_V) (k : Nat) : Nat := if k = 0 then 0 else if p_isPeaceful P (nI k) = true then 1 else 1000000
theorem e_dp1 {K : RM Int32} (hL : RLa P (X.1 220)) (w : okP P) (hR : wfR P) (hC : wfC P) : (lz1 (fun L18 x2 => (it (((1 <<< (nI (ct P 4) &&& 31)) - 1) < x2) K (it (x2 = 0) (wA 228 1024 x2 0 (L18 (x2 + 1))) (ca (fX12_areTogether x2) fun v11 => (it (v11 = 0) (wA 228 1024 x2 1000000 (L18 (x2 + 1))) (wA 228 1024 x2 1 (L18 (x2 + 1)))))))) FU 0) X = K (setR X 228 (fun k => if k < 2 ^ ct P 4 then nI (t0 P k) else X.1 228 k)) := by
  have c4 := w.c4.2
  obtain ⟨p1, p2, p3⟩ := pow_all (ct P 4) (by omega)
  have z0 : (fun i => setR X 228 (fun k => if k < i then nI (t0 P k) else X.1 228 k)) 0 = X := by
    refine setR_self ?_
    funext k
    exact (if_neg (Nat.not_lt_zero k)).symm
  conv => lhs; rw [← z0]
  rw [p1, ix_sl p2]
  refine lz1_X (n := 2 ^ ct P 4) (fun i => setR X 228 (fun k => if k < i then nI (t0 P k) else X.1 228 k)) (by omega) (fun i L hi => ?_) (fun L => ?_)
  · have up : ∀ v, v = nI (t0 P i) → upS (fun k => if k < i then nI (t0 P k) else X.1 228 k) i v = fun k => if k < i + 1 then nI (t0 P k) else X.1 228 k := fun v hv => by
      funext k
      by_cases e : k = i
      · subst e; rw [upS_eq, if_pos (by omega)]; exact hv
      · rw [upS_ne e]
        by_cases d : k < i
        · rw [if_pos d, if_pos (by omega)]
        · rw [if_neg d, if_neg (by omega)]
    have hL' : ∀ D, RLa P ((setR X 228 D).1 220) := fun D => by rw [setR_ne (by decide)]; exact hL
    rw [it_f (nI_nlt (by omega) (by omega)), nI_1]
    by_cases e : i = 0
    · subst e
      rw [it_t (show nI 0 = 0 from rfl), wA_n (by omega) (by decide), setR_s, up 0 rfl]
    · rw [it_f (nI_n0 (by omega) e), ca_s (e_areTog (hL' _) w hR hC _)]
      have t : t0 P i = if p_isPeaceful P (nI i) = true then 1 else 1000000 := if_neg e
      cases z : p_isPeaceful P (nI i)
      · rw [z, if_neg (by decide)] at t
        rw [it_t (show b2 false = 0 from rfl), wA_n (by omega) (by decide), setR_s, up _ (by rw [t]; rfl)]
      · rw [z, if_pos rfl] at t
        rw [it_f (show ¬ b2 true = 0 by decide), wA_n (by omega) (by decide), setR_s, up _ (by rw [t]; rfl)]
  · rw [it_t ((nI_ltI (by omega) (by omega)).mpr (by omega))]
end DP
