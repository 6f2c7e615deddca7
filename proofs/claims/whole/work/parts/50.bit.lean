/-! bits of ints (the first rows: kit/laws/BITS.to-paste, family bt) -/
def bt (x : Int32) (i : Nat) : Bool := x.toBitVec.getLsbD i
theorem b_ext {x y : Int32} (h : ∀ i, i < 32 → bt x i = bt y i) : x = y := Int32.toBitVec_inj.mp (BitVec.eq_of_getLsbD_eq (fun i hi => h i hi))
theorem b_or (x y : Int32) (i : Nat) : bt (x ||| y) i = (bt x i || bt y i) := by unfold bt; rw [Int32.toBitVec_or, BitVec.getLsbD_or]
theorem b_and (x y : Int32) (i : Nat) : bt (x &&& y) i = (bt x i && bt y i) := by unfold bt; rw [Int32.toBitVec_and, BitVec.getLsbD_and]
theorem b_xor (x y : Int32) (i : Nat) : bt (x ^^^ y) i = (bt x i ^^ bt y i) := by unfold bt; rw [Int32.toBitVec_xor, BitVec.getLsbD_xor]
theorem b_big {x : Int32} {i : Nat} (h : 32 ≤ i) : bt x i = false := BitVec.getLsbD_of_ge _ _ h
theorem b_m1 : ∀ i, i < 32 → bt (-1) i = true := by decide +kernel
theorem b_0 (i : Nat) : bt 0 i = false := BitVec.getLsbD_zero
theorem b_sl : ∀ n, n < 32 → ((nI n &&& 31).toBitVec.smod 32).toNat = n := by decide +kernel
theorem b_shl (n : Nat) (hn : n < 32) (x : Int32) {i : Nat} (hi : i < 32) : bt (x <<< (nI n &&& 31)) i = (decide (n ≤ i) && bt x (i - n)) := by
  unfold bt
  rw [Int32.toBitVec_shiftLeft]
  show (x.toBitVec <<< ((nI n &&& 31).toBitVec.smod 32).toNat).getLsbD i = _
  rw [b_sl n hn, BitVec.getLsbD_shiftLeft]
  rcases Nat.lt_or_ge i n with h | h
  · simp [h, Nat.not_le.mpr h]
  · simp [hi, h, Nat.not_lt.mpr h]
theorem b_sshr (n : Nat) (hn : n < 32) (x : Int32) {i : Nat} (hi : i < 32) : bt (x >>> (nI n &&& 31)) i = if n + i < 32 then bt x (n + i) else bt x 31 := by
  unfold bt
  rw [Int32.toBitVec_shiftRight]
  show (x.toBitVec.sshiftRight ((nI n &&& 31).toBitVec.smod 32).toNat).getLsbD i = _
  rw [b_sl n hn, BitVec.getLsbD_sshiftRight, BitVec.msb_eq_getLsbD_last]
  simp [hi]
theorem b_one : ∀ i, i < 32 → bt 1 i = decide (i = 0) := by decide +kernel
theorem b_bit {k i : Nat} (hk : k < 32) (hi : i < 32) : bt (1 <<< (nI k &&& 31)) i = decide (i = k) := by
  rw [b_shl k hk 1 hi]
  by_cases h : k ≤ i
  · rw [b_one _ (by omega)]
    by_cases h2 : i = k
    · simp [h2]
    · have : ¬ i - k = 0 := by omega
      simp [h2, this]
  · have : ¬ i = k := by omega
    simp [h, this]
theorem b_not {x : Int32} {i : Nat} (hi : i < 32) : bt (x ^^^ -1) i = !bt x i := by
  rw [b_xor, b_m1 i hi]
  cases bt x i <;> rfl
theorem b2_1 {b : Bool} : (b2 b = 1) = (b = true) := by cases b <;> simp [b2]
theorem b2_0 {b : Bool} : (b2 b = 0) = (b = false) := by cases b <;> simp [b2]
theorem b2_t : b2 true = 1 := rfl
theorem b2_f : b2 false = 0 := rfl
theorem b2_01 (b : Bool) : b2 b = 0 ∨ b2 b = 1 := by cases b <;> simp [b2]
/-- the test of a bit -/
theorem b_tst {k : Nat} (hk : k < 32) (x : Int32) : (x >>> (nI k &&& 31)) &&& 1 = b2 (bt x k) := by
  refine b_ext (fun i hi => ?_)
  rw [b_and, b_one i hi, b_sshr k hk x hi]
  by_cases h : i = 0
  · subst h
    rw [if_pos (by omega)]
    show (bt x k && true) = _
    cases bt x k <;> rfl
  · have e : decide (i = 0) = false := decide_eq_false h
    rw [e, Bool.and_false]
    cases bt x k
    · exact (b_0 i).symm
    · exact (by rw [show b2 true = 1 from rfl, b_one i hi, e])
theorem b_eq0 {x : Int32} : x = 0 ↔ ∀ i, i < 32 → bt x i = false := by
  refine ⟨fun h i _ => by rw [h, b_0], fun h => b_ext (fun i hi => by rw [h i hi, b_0])⟩
theorem b_and0 {x y : Int32} : x &&& y = 0 ↔ ∀ i, i < 32 → ¬ (bt x i = true ∧ bt y i = true) := by
  rw [b_eq0]
  refine forall_congr' (fun i => forall_congr' (fun _ => ?_))
  rw [b_and]
  cases bt x i <;> cases bt y i <;> simp
theorem b_bo (P : Nat → Bool) : ∀ n, n ≤ 32 → ∀ i, i < 32 → bt (bo P n) i = (decide (i < n) && P i) := by
  intro n
  induction n with
  | zero => intro _ i hi; simp [bo, b_0]
  | succ n ih =>
    intro hn i hi
    rw [bo]
    by_cases h : P n = true
    · rw [if_pos h, b_or, ih (by omega) i hi, b_bit (by omega) hi]
      by_cases e : i = n
      · subst e; simp [h]
      · by_cases e2 : i < n
        · have : i < n + 1 := by omega
          simp [e, e2, this]
        · have : ¬ i < n + 1 := by omega
          simp [e, e2, this]
    · rw [if_neg h, ih (by omega) i hi]
      by_cases e : i = n
      · subst e; simp [h]
      · by_cases e2 : i < n
        · have : i < n + 1 := by omega
          simp [e2, this]
        · have : ¬ i < n + 1 := by omega
          simp [e2, this]
theorem bo_congr {P Q : Nat → Bool} : ∀ n, (∀ i, i < n → P i = Q i) → bo P n = bo Q n := by
  intro n
  induction n with
  | zero => intro _; rfl
  | succ n ih => intro h; rw [bo, bo, h n (by omega), ih (fun i hi => h i (by omega))]
theorem ff_congr {P Q : Nat → Bool} : ∀ m i, (∀ j, i ≤ j → j < i + m → P j = Q j) → ff P i m = ff Q i m := by
  intro m
  induction m with
  | zero => intro _ _; rfl
  | succ m ih => intro i h; rw [ff, ff, h i (by omega) (by omega), ih (i + 1) (fun j h1 h2 => h j (by omega) (by omega))]
theorem al_congr {P Q : Nat → Bool} : ∀ n, (∀ i, i < n → P i = Q i) → al P n = al Q n := by
  intro n
  induction n with
  | zero => intro _; rfl
  | succ n ih => intro h; rw [al, al, h n (by omega), ih (fun i hi => h i (by omega))]
theorem an_congr {P Q : Nat → Bool} : ∀ n, (∀ i, i < n → P i = Q i) → an P n = an Q n := by
  intro n
  induction n with
  | zero => intro _; rfl
  | succ n ih => intro h; rw [an, an, h n (by omega), ih (fun i hi => h i (by omega))]
theorem lo_congr {α : Type} {f g : Nat → α → α} {a : α} : ∀ n, (∀ i x, i < n → f i x = g i x) → lo f n a = lo g n a := by
  intro n
  induction n with
  | zero => intro _; rfl
  | succ n ih => intro h; rw [lo, lo, ih (fun i x hi => h i x (by omega)), h n _ (by omega)]
theorem an_iff {P : Nat → Bool} : ∀ n, an P n = true ↔ ∃ i, i < n ∧ P i = true := by
  intro n
  induction n with
  | zero => simp [an]
  | succ n ih =>
    rw [an, Bool.or_eq_true, ih]
    constructor
    · rintro (⟨i, hi, h⟩ | h)
      · exact ⟨i, by omega, h⟩
      · exact ⟨n, by omega, h⟩
    · rintro ⟨i, hi, h⟩
      by_cases e : i = n
      · subst e; exact Or.inr h
      · exact Or.inl ⟨i, by omega, h⟩
theorem al_iff {P : Nat → Bool} : ∀ n, al P n = true ↔ ∀ i, i < n → P i = true := by
  intro n
  induction n with
  | zero => simp [al]
  | succ n ih =>
    rw [al, Bool.and_eq_true, ih]
    constructor
    · rintro ⟨h1, h2⟩ i hi
      by_cases e : i = n
      · subst e; exact h2
      · exact h1 i (by omega)
    · exact fun h => ⟨fun i hi => h i (by omega), h n (by omega)⟩
/-- the first of which it holds -/
theorem ff_m1 {P : Nat → Bool} : ∀ m i, i + m < 2 ^ 31 → (ff P i m = -1 ↔ ∀ j, i ≤ j → j < i + m → P j = false) := by
  intro m
  induction m with
  | zero => intro i _; simp only [ff, true_iff]; intro j h1 h2; omega
  | succ m ih =>
    intro i hb
    rw [ff]
    by_cases h : P i = true
    · rw [if_pos h]
      constructor
      · intro e; exact absurd e (nI_m1 (by omega))
      · intro e; have := e i (by omega) (by omega); rw [h] at this; exact absurd this (by decide)
    · rw [if_neg h, ih (i + 1) (by omega)]
      constructor
      · intro e j h1 h2
        by_cases c : j = i
        · subst c; exact Bool.eq_false_iff.mpr h
        · exact e j (by omega) (by omega)
      · exact fun e j h1 h2 => e j (by omega) (by omega)
