/-! classes of routes that go together: the fewest of them -/
section CO
/-- the next lower mask -/
theorem sub_next : ∀ n m s t : Nat, m < 2 ^ n → s &&& m = s → t &&& m = t → t < s → t ≤ (s - 1) &&& m := by
  intro n
  induction n with
  | zero =>
    intro m s t hm hs ht h
    have : m = 0 := by omega
    subst this
    rw [Nat.and_zero] at hs
    omega
  | succ n ih =>
    intro m s t hm hs ht h
    have e : ∀ a b : Nat, (a &&& b) / 2 = (a / 2) &&& (b / 2) := fun a b => by
      have := Nat.shiftRight_and_distrib (a := a) (b := b) (i := 1)
      simp only [Nat.shiftRight_succ, Nat.shiftRight_zero] at this
      exact this
    have o : ∀ a b : Nat, (a &&& b) % 2 = (a % 2) * (b % 2) := fun a b => by
      have h1 := Nat.testBit_and a b 0
      rw [Nat.testBit_zero, Nat.testBit_zero, Nat.testBit_zero] at h1
      rcases Nat.mod_two_eq_zero_or_one a with ha | ha <;> rcases Nat.mod_two_eq_zero_or_one b with hb | hb <;> rcases Nat.mod_two_eq_zero_or_one (a &&& b) with hc | hc <;> rw [ha, hb, hc] at h1 <;> rw [ha, hb, hc] <;> first | rfl | exact absurd h1 (by decide)
    have hs2 := congrArg (· / 2) hs
    have ht2 := congrArg (· / 2) ht
    simp only [e] at hs2 ht2
    have hto := congrArg (· % 2) ht
    simp only [o] at hto
    have key := o (s - 1) m
    have key2 := e (s - 1) m
    rcases Nat.mod_two_eq_zero_or_one s with h0 | h1
    · have a1 : (s - 1) % 2 = 1 := by omega
      have a2 : (s - 1) / 2 = s / 2 - 1 := by omega
      have := ih (m / 2) (s / 2) (t / 2) (by rw [Nat.pow_succ] at hm; omega) hs2 ht2 (by omega)
      rw [a2] at key2
      rw [a1, Nat.one_mul] at key
      have tm : t % 2 ≤ m % 2 := by
        rcases Nat.mod_two_eq_zero_or_one m with q | q
        · rw [q, Nat.mul_zero] at hto; omega
        · omega
      omega
    · have a2 : (s - 1) / 2 = s / 2 := by omega
      rw [a2, hs2] at key2
      omega
variable (K : Nat → Nat → Bool) (R : Nat)
def col (M k : Nat) : Prop := ∃ c : Nat → Nat, (∀ r, r < R → M.testBit r = true → c r < k) ∧ ∀ r q, r < R → q < R → M.testBit r = true → M.testBit q = true → K r q = true → ¬ c r = c q
def pcf (M : Nat) : Prop := ∀ r q, r < R → q < R → M.testBit r = true → M.testBit q = true → K r q = false
theorem col_1 {M : Nat} (h : pcf K R M) : col K R M 1 := ⟨fun _ => 0, fun _ _ _ => Nat.zero_lt_one, fun r q a b c d e => by rw [h r q a b c d] at e; exact absurd e (by decide)⟩
theorem col_add {M S k : Nat} (h : pcf K R S) (hc : col K R (M ^^^ S) k) (hS : S &&& M = S) : col K R M (k + 1) := by
  obtain ⟨c, c1, c2⟩ := hc
  have bx : ∀ r, M.testBit r = true → S.testBit r = false → (M ^^^ S).testBit r = true := fun r a b => by rw [Nat.testBit_xor, a, b]; rfl
  refine ⟨fun r => if S.testBit r = true then k else c r, fun r hr hM => ?_, fun r q hr hq hMr hMq e => ?_⟩
  · dsimp only
    by_cases s : S.testBit r = true
    · rw [if_pos s]; omega
    · rw [if_neg s]
      have := c1 r hr (bx r hM (by simpa using s))
      omega
  · dsimp only
    by_cases s : S.testBit r = true
    · rw [if_pos s]
      by_cases u : S.testBit q = true
      · rw [h r q hr hq s u] at e; exact absurd e (by decide)
      · rw [if_neg u]
        have := c1 q hq (bx q hMq (by simpa using u))
        omega
    · rw [if_neg s]
      have a1 := c1 r hr (bx r hMr (by simpa using s))
      by_cases u : S.testBit q = true
      · rw [if_pos u]; omega
      · rw [if_neg u]
        exact c2 r q hr hq (bx r hMr (by simpa using s)) (bx q hMq (by simpa using u)) e
/-- the colour of one of them taken away -/
theorem col_sub {M k l : Nat} (hR : R ≤ 32) (hl : l < R) (hM : M < 2 ^ R) (hb : M.testBit l = true) (hc : col K R M k) : ∃ S, S &&& M = S ∧ S.testBit l = true ∧ pcf K R S ∧ 1 ≤ k ∧ col K R (M ^^^ S) (k - 1) := by
  obtain ⟨c, c1, c2⟩ := hc
  have hk := c1 l hl hb
  obtain ⟨S, S1, S2⟩ := lowB_n (n := R) (lowB.bo (p := fun r => M.testBit r && decide (c r = c l)) (Nat.le_refl R) hR)
  have sb : ∀ i, i < 32 → S.testBit i = (decide (i < R) && (M.testBit i && decide (c i = c l))) := fun i hi => by
    rw [← bt_nI hi, ← S2, b_bo _ _ hR i hi]
  have sb2 : ∀ i, S.testBit i = true → i < R ∧ M.testBit i = true ∧ c i = c l := fun i h => by
    by_cases hi : i < 32
    · rw [sb i hi] at h
      simp only [Bool.and_eq_true, decide_eq_true_eq] at h
      exact ⟨h.1, h.2.1, h.2.2⟩
    · have := Nat.testBit_lt_two_pow (Nat.lt_of_lt_of_le S1 (Nat.pow_le_pow_right (by decide) (show R ≤ i by omega)))
      rw [this] at h; exact absurd h (by decide)
  refine ⟨S, ?_, ?_, ?_, by omega, ?_⟩
  · refine Nat.eq_of_testBit_eq (fun i => ?_)
    rw [Nat.testBit_and]
    cases z : S.testBit i
    · rfl
    · rw [(sb2 i z).2.1]; rfl
  · rw [sb l (by omega), hb]; simp [hl]
  · intro r q hr hq hr2 hq2
    obtain ⟨-, a1, a2⟩ := sb2 r hr2
    obtain ⟨-, b1, b2⟩ := sb2 q hq2
    cases z : K r q
    · rfl
    · exact absurd (a2.trans b2.symm) (c2 r q hr hq a1 b1 z)
  · have mx : ∀ r, r < R → (M ^^^ S).testBit r = true → M.testBit r = true ∧ ¬ c r = c l := fun r hr h => by
      rw [Nat.testBit_xor, sb r (by omega), decide_eq_true hr, Bool.true_and] at h
      cases z : M.testBit r
      · rw [z] at h; exact absurd h (by simp)
      · refine ⟨rfl, fun e => ?_⟩
        rw [z, e] at h
        exact absurd h (by simp)
    refine ⟨fun r => if c r = k - 1 then c l else c r, fun r hr h => ?_, fun r q hr hq h1 h2 e => ?_⟩
    · obtain ⟨m1, m2⟩ := mx r hr h
      have := c1 r hr m1
      dsimp only
      split <;> omega
    · obtain ⟨m1, m2⟩ := mx r hr h1
      obtain ⟨n1, n2⟩ := mx q hq h2
      have d := c2 r q hr hq m1 n1 e
      dsimp only
      split <;> split <;> omega
theorem col_le {M k k' : Nat} (h : k ≤ k') (hc : col K R M k) : col K R M k' := by
  obtain ⟨c, c1, c2⟩ := hc
  exact ⟨c, fun r hr hM => Nat.lt_of_lt_of_le (c1 r hr hM) h, c2⟩
theorem col_pos {M k : Nat} (hM : M < 2 ^ R) (h0 : ¬ M = 0) (hc : col K R M k) : 1 ≤ k := by
  obtain ⟨c, c1, -⟩ := hc
  by_cases e : ∃ r, r < R ∧ M.testBit r = true
  · obtain ⟨r, hr, h⟩ := e
    have := c1 r hr h
    omega
  · exfalso
    refine h0 (Nat.eq_of_testBit_eq (fun i => ?_))
    rw [Nat.zero_testBit]
    cases z : M.testBit i
    · rfl
    · by_cases hi : i < R
      · exact absurd ⟨i, hi, z⟩ e
      · rw [Nat.testBit_lt_two_pow (Nat.lt_of_lt_of_le hM (Nat.pow_le_pow_right (by decide) (show R ≤ i by omega)))] at z
        exact absurd z (by decide)
end CO
