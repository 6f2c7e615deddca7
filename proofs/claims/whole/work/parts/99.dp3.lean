/-! the reference's table: the fewest classes -/
section DR
variable {P V : m_V} {X : X_}
/-- a is the fewest -/
def FN (K : Nat → Nat → Bool) (R M a : Nat) : Prop := col K R M a ∧ ∀ k, col K R M k → a ≤ k
theorem bits_in {M S l0 : Nat} (h : S &&& M = S) (hb : S.testBit l0 = true) : ((S ^^^ 2 ^ l0) ||| 2 ^ l0) = S ∧ (S ^^^ 2 ^ l0) &&& (M ^^^ 2 ^ l0) = S ^^^ 2 ^ l0 := by
  have sm : ∀ i, S.testBit i = true → M.testBit i = true := fun i hi => by
    have := congrArg (fun x => x.testBit i) h
    simp only [Nat.testBit_and, hi, Bool.true_and] at this
    exact this
  constructor
  · refine Nat.eq_of_testBit_eq (fun i => ?_)
    rw [Nat.testBit_or, Nat.testBit_xor, Nat.testBit_two_pow]
    by_cases e : l0 = i
    · subst e; rw [hb]; simp
    · rw [decide_eq_false e]; simp
  · refine Nat.eq_of_testBit_eq (fun i => ?_)
    rw [Nat.testBit_and, Nat.testBit_xor, Nat.testBit_xor, Nat.testBit_two_pow]
    by_cases e : l0 = i
    · subst e; rw [hb, sm _ hb]; simp
    · rw [decide_eq_false e]
      cases z : S.testBit i
      · rfl
      · rw [sm i z]; rfl
theorem part_in {M t l0 : Nat} (hb : M.testBit l0 = true) (h : t &&& (M ^^^ 2 ^ l0) = t) : (t ||| 2 ^ l0) &&& M = t ||| 2 ^ l0 := by
  refine Nat.eq_of_testBit_eq (fun i => ?_)
  have h1 := congrArg (fun x => x.testBit i) h
  simp only [Nat.testBit_and, Nat.testBit_xor, Nat.testBit_two_pow] at h1
  rw [Nat.testBit_and, Nat.testBit_or, Nat.testBit_two_pow]
  by_cases e : l0 = i
  · subst e; rw [hb]; simp
  · rw [decide_eq_false e] at h1 ⊢
    rw [Bool.or_false]
    cases z : t.testBit i
    · rfl
    · rw [z] at h1
      simpa using h1
theorem xor_lt {M S : Nat} (h : S &&& M = S) (h0 : ¬ S = 0) : M ^^^ S < M := by
  have e : (M ^^^ S) &&& M = M ^^^ S := by
    refine Nat.eq_of_testBit_eq (fun i => ?_)
    have h1 := congrArg (fun x => x.testBit i) h
    simp only [Nat.testBit_and] at h1
    rw [Nat.testBit_and, Nat.testBit_xor]
    cases z : M.testBit i
    · rw [z] at h1
      simp at h1
      rw [h1]; rfl
    · simp
  have le : M ^^^ S ≤ M := by rw [← e]; exact Nat.and_le_right
  have ne : ¬ M ^^^ S = M := fun q => h0 (by
    have := congrArg (M ^^^ ·) q
    simp only [← Nat.xor_assoc, Nat.xor_self, Nat.zero_xor] at this
    exact this)
  omega
theorem col_id {K : Nat → Nat → Bool} {R M k : Nat} (hi : ∀ r, K r r = false) (hk : R ≤ k) : col K R M k := ⟨fun r => r, fun r hr _ => by show r < k; omega, fun r q _ _ _ _ e z => by
  have z : r = q := z
  subst z; rw [hi r] at e; exact absurd e (by decide)⟩
theorem col1_pcf {K : Nat → Nat → Bool} {R M : Nat} (h : col K R M 1) : pcf K R M := fun r q hr hq a b => by
  obtain ⟨c, c1, c2⟩ := h
  cases z : K r q
  · rfl
  · have h1 := c1 r hr a
    have h2 := c1 q hq b
    exact absurd (by omega) (c2 r q hr hq a b z)
/-- one mask, once those below are worked out -/
theorem FN_step {K : Nat → Nat → Bool} {R M l0 v : Nat} {D : Nat → Nat} (hi : ∀ r, K r r = false) (hR : R ≤ 10) (hM : M < 2 ^ R) (hl : l0 < R) (hb : M.testBit l0 = true) (hp : ¬ pcf K R M) (hD : ∀ k, k < M → FN K R k (D k)) (hv : v = 1000000 ∨ ∃ t, t &&& (M ^^^ 2 ^ l0) = t ∧ trd D M (2 ^ l0) t ∧ v = 1 + D (M ^^^ (t ||| 2 ^ l0))) (hall : ∀ t, t &&& (M ^^^ 2 ^ l0) = t → trd D M (2 ^ l0) t → v ≤ 1 + D (M ^^^ (t ||| 2 ^ l0))) : FN K R M v := by
  have p1 : 1 ≤ 2 ^ l0 := Nat.one_le_two_pow
  constructor
  · rcases hv with rfl | ⟨t, h1, h2, rfl⟩
    · exact col_id hi (by omega)
    · have hs := part_in hb h1
      have ge : 2 ^ l0 ≤ t ||| 2 ^ l0 := Nat.right_le_or
      have lt : t ||| 2 ^ l0 < M := by
        have : t ||| 2 ^ l0 ≤ M := by rw [← hs]; exact Nat.and_le_right
        have := h2.1
        omega
      have c1 := (hD _ lt).1
      rw [h2.2] at c1
      have := col_add K R (col1_pcf c1) (hD _ (xor_lt hs (by omega))).1 hs
      rw [Nat.add_comm]
      exact this
  · intro k hk
    obtain ⟨S, s1, s2, s3, s4, s5⟩ := col_sub K R (by omega) hl hM hb hk
    obtain ⟨b1, b2⟩ := bits_in s1 s2
    have ne : ¬ S = M := fun e => hp (by rw [← e]; exact s3)
    have s0 : ¬ S = 0 := fun e => by rw [e, Nat.zero_testBit] at s2; exact absurd s2 (by decide)
    have lt : S < M := by
      have : S ≤ M := by rw [← s1]; exact Nat.and_le_right
      omega
    have d1 : D S = 1 := by
      have a1 := (hD S lt).2 1 (col_1 K R s3)
      have a2 := col_pos K R (by omega) s0 (hD S lt).1
      omega
    have := hall (S ^^^ 2 ^ l0) b2 ⟨by rw [b1]; exact ne, by rw [b1]; exact d1⟩
    rw [b1] at this
    have := (hD _ (xor_lt s1 s0)).2 _ s5
    omega
end DR
