/-! which failures fit a report: the pieces -/
section FT
variable {P V : m_V} {X : X_}
def fsh (N : Nat) (O : Int32) (f c : Nat) : Bool := if f = 2 * N then bt O c else if f / 2 = c then decide (f % 2 = 1) else bt O c
def af (p : Nat → Bool) : Nat → Nat → Bool
  | _, 0 => true
  | j, m + 1 => p j && af p (j + 1) m
theorem half_n {f : Nat} (h : f < 2 ^ 31) : nI f / 2 = nI (f / 2) := nI_div (b := 2) h (by decide) (by decide)
theorem odd_n {f : Nat} (h : f < 2 ^ 31) : nI f - nI f / 2 * 2 = nI (f % 2) := nI_mod (b := 2) h (by decide) (by decide)
theorem odd_b (f : Nat) : nI (f % 2) = b2 (decide (f % 2 = 1)) := by
  rcases Nat.mod_two_eq_zero_or_one f with h | h <;> rw [h] <;> rfl
theorem k_shownBy {N f c : Nat} {O : Int32} (hN : N ≤ 12) (hf : f ≤ 2 * N) (hc : c < 32) : fX2_shownBy (nI f) (nI (2 * N)) (nI c) O X = some (b2 (fsh N O f c), X) := by
  unfold fX2_shownBy fsh
  rw [b_tst hc, half_n (by omega), ← half_n (show f < 2 ^ 31 by omega), odd_n (by omega), half_n (by omega), odd_b]
  by_cases e : f = 2 * N
  · rw [it_t (by rw [e]), if_pos e]; rfl
  · rw [it_f (fun z => e ((nI_eq (by omega) (by omega)).mp z)), if_neg e]
    by_cases g : f / 2 = c
    · rw [it_t (by rw [g]), if_pos g]; rfl
    · rw [it_f (fun z => g ((nI_eq (by omega) (by omega)).mp z)), if_neg g]; rfl
theorem e_showsAt (hL : RLa P (X.1 220)) (w : okP P) (hS : RS P V (X.1 220)) (hD : wfD P V) {f c : Nat} (hf : f ≤ 2 * ct P 0) (hc : c < ct P 0) : fX12_showsAt (nI c) (nI f) X = some (b2 (fsh (ct P 0) (s_occupied P V) f c), X) := by
  have c0 := w.c0.2
  have fin : ∀ b : Bool, it (b2 b = 0) (re 0) (re 1) X = some (b2 b, X) := fun b => by cases b <;> rfl
  unfold fX12_showsAt fsh
  rw [half_n (by omega), ← half_n (show f < 2 ^ 31 by omega), odd_n (by omega), half_n (by omega)]
  by_cases g : f / 2 = c
  · rw [it_t (by rw [g]), if_neg (by omega), if_pos g, ix_la, ca_s (e_showsBy hL w hS hD (by omega) _), fin]
    rcases Nat.mod_two_eq_zero_or_one f with h | h <;> rw [h] <;> rfl
  · rw [it_f (fun z => g ((nI_eq (by omega) (by omega)).mp z)), ca_s (e_showsBy hL w hS hD (by omega) _), fin, if_neg g]
    have : (if f = 2 * ct P 0 then bt (s_occupied P V) c else bt (s_occupied P V) c) = bt (s_occupied P V) c := by split <;> rfl
    rw [this, decide_eq_false (show ¬ (0 : Int32) = 2 by decide), decide_eq_true (show (0 : Int32) = 0 from rfl), Bool.false_or, Bool.true_and]
/-- a line of the report, held against a failure -/
def pf (N : Nat) (O : Int32) (b : Nat → Nat) (f j : Nat) : Bool := decide (b2 (fsh N O f (b (2 * j))) = nI (b (2 * j + 1)))
theorem k_explains {N f h : Nat} {O : Int32} {b : Nat → Nat} (hN : N ≤ 12) (hf : f ≤ 2 * N) (hh : h ≤ 6) (h1 : X.1 1 1 = nI (2 * h)) (h2 : ∀ k, k < 2 * h → X.1 2 k = nI (b k)) (hb : ∀ j, j < h → b (2 * j) < 32) : fX2_explains (nI f) (nI (2 * N)) O X = some (b2 (af (pf N O b f) 0 h), X) := by
  have loop : ∀ m j fu, j + m = h → m < fu → lz1 (fun L3 x1 => (gI 1 1 fun v2 => (it (v2 ≤ (x1 + 1)) (re 1) (rA 2 1460 x1 fun v3 => (ca (fX2_shownBy (nI f) (nI (2 * N)) v3 O) fun v4 => (rA 2 1460 (x1 + 1) fun v5 => (it (v4 = v5) (L3 (x1 + 2)) (re 0)))))))) fu (nI (2 * j)) X = some (b2 (af (pf N O b f) j m), X) := by
    intro m
    induction m with
    | zero =>
      intro j fu hj hf
      obtain ⟨fu, rfl⟩ : ∃ g, fu = g + 1 := ⟨fu - 1, by omega⟩
      rw [lz1_s, gI_e, h1, nI_1, it_t (nI_le (by omega) (by omega))]; rfl
    | succ m ih =>
      intro j fu hj hf
      obtain ⟨fu, rfl⟩ : ∃ g, fu = g + 1 := ⟨fu - 1, by omega⟩
      rw [lz1_s, gI_e, h1, nI_1, it_f (nI_ge (by omega) (by omega)), rA_n (by omega) (by decide), h2 _ (by omega), ca_s (k_shownBy hN (by omega) (hb j (by omega))), rA_n (by omega) (by decide), h2 _ (by omega), af, pf]
      by_cases e : b2 (fsh N O f (b (2 * j))) = nI (b (2 * j + 1))
      · rw [it_t e, decide_eq_true e, Bool.true_and, ix_al]
        exact ih (j + 1) fu (by omega) (by omega)
      · rw [it_f e, decide_eq_false e]; rfl
  exact loop h 0 FU (by omega) (by rw [FU_eq]; omega)
theorem e_isFit (hL : RLa P (X.1 220)) (w : okP P) (hS : RS P V (X.1 220)) (hD : wfD P V) {f h : Nat} {b : Nat → Nat} (hf : f ≤ 2 * ct P 0) (hh : h ≤ 6) (h1 : X.1 218 3 = nI (2 * h)) (h2 : ∀ k, k < 2 * h → X.1 219 k &&& 255 = nI (b k)) (hb : ∀ j, j < h → b (2 * j) < ct P 0) : fX12_isFit (nI f) X = some (b2 (af (pf (ct P 0) (s_occupied P V) b f) 0 h), X) := by
  have oct : ∀ k, k < 2 * h → fX12_octet (nI k) X = some (nI (b k), X) := fun k hk => by
    unfold fX12_octet
    rw [rA_n (by omega) (by decide), h2 k hk]; rfl
  have loop : ∀ m j fu x, j + m = h → m < fu → lz2 (fun L4 x1 x2 => (gI 218 3 fun v3 => (it (v3 ≤ x2) (rz x1) (it (x1 = 0) (L4 0 (x2 + 2)) (ca (fX12_octet x2) fun v4 => (ca (fX12_showsAt v4 (nI f)) fun v5 => (ca (fX12_octet (x2 + 1)) fun v6 => (it (v5 = v6) (L4 1 (x2 + 2)) (L4 0 (x2 + 2)))))))))) fu (b2 x) (nI (2 * j)) X = some (b2 (x && af (pf (ct P 0) (s_occupied P V) b f) j m), X) := by
    intro m
    induction m with
    | zero =>
      intro j fu x hj hf
      obtain ⟨fu, rfl⟩ : ∃ g, fu = g + 1 := ⟨fu - 1, by omega⟩
      rw [lz2_s, gI_e, h1, it_t (nI_le (by omega) (by omega)), rz_b, af, Bool.and_true]
    | succ m ih =>
      intro j fu x hj hfu
      obtain ⟨fu, rfl⟩ : ∃ g, fu = g + 1 := ⟨fu - 1, by omega⟩
      rw [lz2_s, gI_e, h1, it_f (nI_ge (by omega) (by omega))]
      cases x
      · rw [it_t (show b2 false = 0 from rfl), ix_al]
        exact ih (j + 1) fu false (by omega) (by omega)
      · rw [it_f (show ¬ b2 true = 0 by decide), ca_s (oct _ (by omega)), ca_s (e_showsAt hL w hS hD hf (hb j (by omega))), nI_1, ca_s (oct _ (by omega)), af, pf, Bool.true_and, ix_al]
        by_cases e : b2 (fsh (ct P 0) (s_occupied P V) f (b (2 * j))) = nI (b (2 * j + 1))
        · rw [it_t e, decide_eq_true e]
          exact ih (j + 1) fu true (by omega) (by omega)
        · rw [it_f e, decide_eq_false e]
          exact ih (j + 1) fu false (by omega) (by omega)
  have := loop h 0 FU true (by omega) (by rw [FU_eq]; omega)
  rw [Bool.true_and] at this
  exact this
/-- a report that is in order -/
def vr (N : Nat) (b : Nat → Nat) (j : Nat) : Bool := decide (b (2 * j) < N) && decide (b (2 * j + 1) ≤ 1)
theorem af_iff {p : Nat → Bool} : ∀ m j, af p j m = true ↔ ∀ i, j ≤ i → i < j + m → p i = true := by
  intro m
  induction m with
  | zero => intro j; exact ⟨fun _ i h1 h2 => by omega, fun _ => rfl⟩
  | succ m ih =>
    intro j
    rw [af, Bool.and_eq_true, ih]
    constructor
    · intro ⟨h1, h2⟩ i a c
      by_cases e : i = j
      · subst e; exact h1
      · exact h2 i (by omega) (by omega)
    · intro h
      exact ⟨h j (by omega) (by omega), fun i a c => h i (by omega) (by omega)⟩
theorem has0 (w : okP P) {k : Nat} (hk : k < 256) : (0 ≤ nI k ∧ nI k < P 1 0) ↔ k < ct P 0 := by
  have c0 := w.c0.2
  rw [w.c0.1]
  constructor
  · intro h; exact (nI_ltI (by omega) (by omega)).mp h.2
  · intro h; exact ⟨nI_pos' (by omega), (nI_ltI (by omega) (by omega)).mpr h⟩
theorem k_isReport {n : Nat} {b : Nat → Nat} (w : okP (bP X 4)) (hn : n ≤ 1460) (h1 : X.1 1 1 = nI n) (h2 : ∀ k, k < n → X.1 2 k = nI (b k) ∧ b k < 256) : fX2_isReport X = some (b2 (decide (2 ≤ n ∧ n ≤ 12 ∧ n % 2 = 0) && af (vr (ct (bP X 4) 0) b) 0 (n / 2)), X) := by
  unfold fX2_isReport
  rw [gI_e, h1]
  by_cases c1 : n < 2
  · rw [it_t (show nI n < 2 from (nI_ltI (b := 2) (by omega) (by decide)).mpr c1), decide_eq_false (by omega)]; rfl
  rw [it_f (show ¬ nI n < 2 from fun e => c1 ((nI_ltI (b := 2) (by omega) (by decide)).mp e)), gI_e, h1]
  by_cases c2 : 12 < n
  · rw [it_t (show (12 : Int32) < nI n from (nI_ltI (a := 12) (by decide) (by omega)).mpr c2), decide_eq_false (by omega)]; rfl
  rw [it_f (show ¬ (12 : Int32) < nI n from fun e => c2 ((nI_ltI (a := 12) (by decide) (by omega)).mp e)), gI_e, h1, odd_n (by omega)]
  by_cases c3 : n % 2 = 0
  · rw [it_t (by rw [c3]; rfl), decide_eq_true ⟨by omega, by omega, c3⟩, Bool.true_and]
    obtain ⟨h, rfl⟩ : ∃ h, n = 2 * h := ⟨n / 2, by omega⟩
    rw [Nat.mul_div_cancel_left h (by decide)]
    have loop : ∀ m j fu, j + m = h → m < fu → lz1 (fun L30 x4 => (gI 1 1 fun v5 => (it (v5 ≤ (x4 + 1)) (re 1) (rA 2 1460 x4 fun v6 => (ca (fX5_has 4 0 v6) fun v7 => (it (v7 = 0) (re 0) (rA 2 1460 (x4 + 1) fun v8 => (it (v8 ≤ 1) (L30 (x4 + 2)) (re 0))))))))) fu (nI (2 * j)) X = some (b2 (af (vr (ct (bP X 4) 0) b) j m), X) := by
      intro m
      induction m with
      | zero =>
        intro j fu hj hf
        obtain ⟨fu, rfl⟩ : ∃ g, fu = g + 1 := ⟨fu - 1, by omega⟩
        rw [lz1_s, gI_e, h1, nI_1, it_t (nI_le (by omega) (by omega))]; rfl
      | succ m ih =>
        intro j fu hj hf
        obtain ⟨fu, rfl⟩ : ∃ g, fu = g + 1 := ⟨fu - 1, by omega⟩
        obtain ⟨a1, a2⟩ := h2 (2 * j) (by omega)
        obtain ⟨a3, a4⟩ := h2 (2 * j + 1) (by omega)
        rw [lz1_s, gI_e, h1, nI_1, it_f (nI_ge (by omega) (by omega)), rA_n (by omega) (by decide), a1, ca_s (k_has (by decide)), af, vr]
        by_cases e : b (2 * j) < ct (bP X 4) 0
        · rw [it_f (bz_t ((has0 w a2).mpr e)), rA_n (by omega) (by decide), a3, decide_eq_true e, Bool.true_and, ix_al]
          by_cases g : b (2 * j + 1) ≤ 1
          · rw [it_t (show nI (b (2 * j + 1)) ≤ 1 from (nI_leI (b := 1) (by omega) (by decide)).mpr g), decide_eq_true g, Bool.true_and]
            exact ih (j + 1) fu (by omega) (by omega)
          · rw [it_f (show ¬ nI (b (2 * j + 1)) ≤ 1 from fun z => g ((nI_leI (b := 1) (by omega) (by decide)).mp z)), decide_eq_false g]; rfl
        · rw [it_t (bz_f (fun z => e ((has0 w a2).mp z))), decide_eq_false e]; rfl
    exact loop h 0 FU (by omega) (by rw [FU_eq]; omega)
  · rw [it_f (show ¬ nI (n % 2) = 0 from fun e => c3 ((nI_eq (b := 0) (by omega) (by decide)).mp e)), decide_eq_false (by omega)]; rfl
end FT
