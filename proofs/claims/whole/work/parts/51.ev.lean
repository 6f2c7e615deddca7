/-! evaluating functions over X_ -/
section EV
variable {α β : Type} {a k n j : Nat} {X X' : X_} {v : Int32}
theorem gI_e {F : Int32 → RM α} : gI a k F X = F (X.1 a k) X := rfl
theorem gJ_e {F : Int64 → RM α} : gJ a k F X = F (X.2.1 a k) X := rfl
theorem pI_e {F : RM α} : pI a k v F X = F (sI X a k v) := rfl
theorem pJ_e {w : Int64} {F : RM α} : pJ a k w F X = F (sJ X a k w) := rfl
theorem re_e {w : α} : re w X = some (w, X) := rfl
theorem it_e {c : Prop} [Decidable c] {A B : RM α} : it c A B X = if c then A X else B X := rfl
theorem ca_s {f : RM β} {F : β → RM α} {w : β} (h : f X = some (w, X')) : ca f F X = F w X' := by rw [ca, h]
theorem ca_re {f : RM α} : ca f (fun v => re v) X = f X := by
  unfold ca re
  cases f X <;> rfl
theorem rz_e (h : v = 0 ∨ v = 1) : rz v X = some (v, X) := if_pos h
theorem rz_b (b : Bool) : rz (b2 b) X = some (b2 b, X) := if_pos (b2_01 b)
theorem rz_0 : rz 0 X = some (0, X) := if_pos (Or.inl rfl)
theorem rz_1 : rz 1 X = some (1, X) := if_pos (Or.inr rfl)
theorem pZ_e {F : RM α} (h : v = 0 ∨ v = 1) : pZ a k v F X = F (sI X a k v) := if_pos h
theorem jo0_e {J : RM α} {F : RM α → RM α} : jo0 J F X = F J X := rfl
theorem jo1_e {J : Int32 → RM α} {F : (Int32 → RM α) → RM α} : jo1 J F X = F J X := rfl
theorem jo2_e {J : Int32 → Int32 → RM α} {F : (Int32 → Int32 → RM α) → RM α} : jo2 J F X = F J X := rfl
theorem nz_e {F : RM α} (h : ¬ v = 0) : nz v F X = F X := if_neg h
theorem rA_n {F : Int32 → RM α} (h : j < n) (hn : n < 2 ^ 31) : rA a n (nI j) F X = F (X.1 a j) X := by
  rw [rA, if_neg (nI_in h hn), nI_clamp (by omega)]
theorem rJ_n {F : Int64 → RM α} (h : j < n) (hn : n < 2 ^ 31) : rJ a n (nI j) F X = F (X.2.1 a j) X := by
  rw [rJ, if_neg (nI_in h hn), nI_clamp (by omega)]
theorem wA_n {F : RM α} (h : j < n) (hn : n < 2 ^ 31) : wA a n (nI j) v F X = F (sI X a j v) := by
  rw [wA, if_neg (nI_in h hn), nI_clamp (by omega)]
theorem wJ_n {w : Int64} {F : RM α} (h : j < n) (hn : n < 2 ^ 31) : wJ a n (nI j) w F X = F (sJ X a j w) := by
  rw [wJ, if_neg (nI_in h hn), nI_clamp (by omega)]
theorem wZ_n {F : RM α} (h : j < n) (hn : n < 2 ^ 31) (hv : v = 0 ∨ v = 1) : wZ a n (nI j) v F X = F (sI X a j v) := by
  rw [wZ, if_neg (nI_in h hn), if_pos hv, nI_clamp (by omega)]
theorem rA_l {F : Int32 → RM α} (h : (OfNat.ofNat j : Nat) < n) (hn : n < 2 ^ 31) : rA a n (OfNat.ofNat j) F X = F (X.1 a (OfNat.ofNat j)) X := rA_n h hn
theorem rJ_l {F : Int64 → RM α} (h : (OfNat.ofNat j : Nat) < n) (hn : n < 2 ^ 31) : rJ a n (OfNat.ofNat j) F X = F (X.2.1 a (OfNat.ofNat j)) X := rJ_n h hn
theorem wA_l {F : RM α} (h : (OfNat.ofNat j : Nat) < n) (hn : n < 2 ^ 31) : wA a n (OfNat.ofNat j) v F X = F (sI X a (OfNat.ofNat j) v) := wA_n h hn
theorem wJ_l {w : Int64} {F : RM α} (h : (OfNat.ofNat j : Nat) < n) (hn : n < 2 ^ 31) : wJ a n (OfNat.ofNat j) w F X = F (sJ X a (OfNat.ofNat j) w) := wJ_n h hn
theorem sI_i {a' k' : Nat} : (sI X a k v).1 a' k' = if a' = a ∧ k' = k then v else X.1 a' k' := rfl
theorem sI_ne {a' k' : Nat} (h : ¬ (a' = a ∧ k' = k)) : (sI X a k v).1 a' k' = X.1 a' k' := if_neg h
theorem sI_eq : (sI X a k v).1 a k = v := if_pos ⟨rfl, rfl⟩
theorem sI_j {a' k' : Nat} : (sI X a k v).2.1 a' k' = X.2.1 a' k' := rfl
theorem sI_g : (sI X a k v).2.2 = X.2.2 := rfl
theorem sJ_i {w : Int64} {a' k' : Nat} : (sJ X a k w).1 a' k' = X.1 a' k' := rfl
theorem sJ_j {w : Int64} {a' k' : Nat} : (sJ X a k w).2.1 a' k' = if a' = a ∧ k' = k then w else X.2.1 a' k' := rfl
theorem sJ_g {w : Int64} : (sJ X a k w).2.2 = X.2.2 := rfl
/-- another cell's row stays -/
theorem sI_row {b : Nat} (h : ¬ b = a) : (sI X a k v).1 b = X.1 b := by
  funext j
  simp [sI, h]
theorem sJ_row {w : Int64} {b : Nat} : (sJ X a k w).1 b = X.1 b := rfl
theorem sI_rowJ {b : Nat} : (sI X a k v).2.1 b = X.2.1 b := rfl
theorem sJ_rowJ {w : Int64} {b : Nat} (h : ¬ b = a) : (sJ X a k w).2.1 b = X.2.1 b := by
  funext j
  simp [sJ, h]
end EV
section IX
variable {a b c : Nat}
theorem ix_la (c r : Nat) : (OfNat.ofNat c : Int32) + nI r = nI ((OfNat.ofNat c : Nat) + r) := nI_add c r
theorem ix_lm (c r : Nat) : (OfNat.ofNat c : Int32) * nI r = nI ((OfNat.ofNat c : Nat) * r) := by
  show nI c * nI r = nI (c * r)
  exact (Int32.ofNat_mul c r).symm
theorem ix_ml (r c : Nat) : nI r * (OfNat.ofNat c : Int32) = nI (r * (OfNat.ofNat c : Nat)) := by
  show nI r * nI c = nI (r * c)
  exact (Int32.ofNat_mul r c).symm
theorem ix_al (r c : Nat) : nI r + (OfNat.ofNat c : Int32) = nI (r + (OfNat.ofNat c : Nat)) := nI_add r c
theorem ix_sub {a c : Nat} (h : c ≤ a) : nI a - nI c = nI (a - c) := by
  have e : nI a = nI (a - c) + nI c := by rw [nI_add, Nat.sub_add_cancel h]
  rw [e]
  exact Int32.add_sub_cancel _ _
theorem ix_sl {a c : Nat} (h : (OfNat.ofNat c : Nat) ≤ a) : nI a - (OfNat.ofNat c : Int32) = nI (a - (OfNat.ofNat c : Nat)) := ix_sub h
theorem ix_mm (a c : Nat) : nI a * nI c = nI (a * c) := (Int32.ofNat_mul a c).symm
theorem cN_le (ha : a < 2 ^ 31) (hb : b < 2 ^ 31) : (nI a ≤ nI b) = (a ≤ b) := propext (nI_leI ha hb)
theorem cN_lt (ha : a < 2 ^ 31) (hb : b < 2 ^ 31) : (nI a < nI b) = (a < b) := propext (nI_ltI ha hb)
theorem cN_eq (ha : a < 2 ^ 31) (hb : b < 2 ^ 31) : (nI a = nI b) = (a = b) := propext (nI_eq ha hb)
theorem cL_le (ha : (OfNat.ofNat c : Nat) < 2 ^ 31) (hb : b < 2 ^ 31) : ((OfNat.ofNat c : Int32) ≤ nI b) = ((OfNat.ofNat c : Nat) ≤ b) := cN_le ha hb
theorem cL_lt (ha : (OfNat.ofNat c : Nat) < 2 ^ 31) (hb : b < 2 ^ 31) : ((OfNat.ofNat c : Int32) < nI b) = ((OfNat.ofNat c : Nat) < b) := cN_lt ha hb
theorem cL_eq (ha : (OfNat.ofNat c : Nat) < 2 ^ 31) (hb : b < 2 ^ 31) : ((OfNat.ofNat c : Int32) = nI b) = ((OfNat.ofNat c : Nat) = b) := cN_eq ha hb
theorem cR_le (ha : a < 2 ^ 31) (hb : (OfNat.ofNat c : Nat) < 2 ^ 31) : (nI a ≤ (OfNat.ofNat c : Int32)) = (a ≤ (OfNat.ofNat c : Nat)) := cN_le ha hb
theorem cR_lt (ha : a < 2 ^ 31) (hb : (OfNat.ofNat c : Nat) < 2 ^ 31) : (nI a < (OfNat.ofNat c : Int32)) = (a < (OfNat.ofNat c : Nat)) := cN_lt ha hb
theorem cR_eq (ha : a < 2 ^ 31) (hb : (OfNat.ofNat c : Nat) < 2 ^ 31) : (nI a = (OfNat.ofNat c : Int32)) = (a = (OfNat.ofNat c : Nat)) := cN_eq ha hb
theorem cM_eq (ha : a < 2 ^ 31) : (nI a = -1) = False := eq_false (nI_m1 ha)
theorem cM_eq' (ha : a < 2 ^ 31) : (-1 = nI a) = False := eq_false (fun e => nI_m1 ha e.symm)
theorem c0_lt (ha : a < 2 ^ 31) : (nI a < 0) = False := eq_false (nI_pos ha)
theorem c0_le (ha : a < 2 ^ 31) : (0 ≤ nI a) = True := eq_true (nI_pos' ha)
theorem cp_inj {x y c : Int32} : (x + c = y + c) = (x = y) := propext ⟨fun h => by have := congrArg (· - c) h; simpa using this, fun h => by rw [h]⟩
theorem nL_ge {c i : Nat} (h : i < (OfNat.ofNat c : Nat)) (hc : (OfNat.ofNat c : Nat) < 2 ^ 31) : ¬ (OfNat.ofNat c : Int32) ≤ nI i := nI_ge h hc
theorem nL_le {c : Nat} (hc : (OfNat.ofNat c : Nat) < 2 ^ 31) : (OfNat.ofNat c : Int32) ≤ nI (OfNat.ofNat c) := nI_le (Nat.le_refl _) hc
theorem nL_lt {c i : Nat} (h : i ≤ (OfNat.ofNat c : Nat)) (hc : (OfNat.ofNat c : Nat) < 2 ^ 31) : ¬ (OfNat.ofNat c : Int32) < nI i := nI_nlt h hc
end IX
section IF
variable {γ : Sort _} {A B : γ}
theorem if_b0 {b : Bool} : (if b2 b = 0 then A else B) = if b = false then A else B := by cases b <;> rfl
theorem if_b1 {b : Bool} : (if b2 b = 1 then A else B) = if b = true then A else B := by cases b <;> rfl
theorem if_cp {x y c : Int32} : (if x + c = y + c then A else B) = if x = y then A else B := by
  by_cases h : x = y
  · subst h; rw [if_pos rfl, if_pos rfl]
  · rw [if_neg h, if_neg (fun e => h (by have := congrArg (· - c) e; simpa using this))]
theorem if_iff {p q : Prop} [Decidable p] [Decidable q] (h : p ↔ q) : (if p then A else B) = if q then A else B := by
  by_cases c : q
  · rw [if_pos c, if_pos (h.mpr c)]
  · rw [if_neg c, if_neg (fun e => c (h.mp e))]
theorem bz_t {p : Prop} [Decidable p] (h : p) : ¬ b2 (decide p) = 0 := by rw [b2_0, decide_eq_true h]; decide
theorem bz_f {p : Prop} [Decidable p] (h : ¬ p) : b2 (decide p) = 0 := by rw [b2_0, decide_eq_false h]
end IF
section LP
variable {α : Type}
theorem lz0_s {B : RM α → RM α} {f : Nat} : lz0 B (f + 1) = B (lz0 B f) := rfl
theorem lz1_s {B : (Int32 → RM α) → Int32 → RM α} {f : Nat} {x : Int32} : lz1 B (f + 1) x = B (lz1 B f) x := rfl
theorem lz2_s {B : (Int32 → Int32 → RM α) → Int32 → Int32 → RM α} {f : Nat} {x y : Int32} : lz2 B (f + 1) x y = B (lz2 B f) x y := rfl
/-- a loop that counts from i0 on: the states x i one after the other, until at n it goes to E -/
theorem lz1_from {B : (Int32 → RM α) → Int32 → RM α} (x : Nat → X_) {n : Nat} {E : Option (α × X_)}
    (h1 : ∀ i L, i < n → B L (nI i) (x i) = L (nI (i + 1)) (x (i + 1))) (h2 : ∀ L, B L (nI n) (x n) = E) : ∀ m i f, i + m = n → m < f → lz1 B f (nI i) (x i) = E := by
  intro m
  induction m with
  | zero =>
    intro i f hi hf
    obtain ⟨f, rfl⟩ : ∃ g, f = g + 1 := ⟨f - 1, by omega⟩
    rw [lz1_s, show i = n by omega]
    exact h2 _
  | succ m ih =>
    intro i f hi hf
    obtain ⟨f, rfl⟩ : ∃ g, f = g + 1 := ⟨f - 1, by omega⟩
    rw [lz1_s, h1 i _ (by omega)]
    exact ih (i + 1) f (by omega) (by omega)
theorem lz1_X {B : (Int32 → RM α) → Int32 → RM α} (x : Nat → X_) {n : Nat} {E : Option (α × X_)} (hn : n < 5000)
    (h1 : ∀ i L, i < n → B L (nI i) (x i) = L (nI (i + 1)) (x (i + 1))) (h2 : ∀ L, B L (nI n) (x n) = E) : lz1 B FU 0 (x 0) = E :=
  lz1_from x h1 h2 n 0 FU (by omega) (by rw [FU_eq]; exact hn)
/-- two variables: the second counts -/
theorem lz2_from {B : (Int32 → Int32 → RM α) → Int32 → Int32 → RM α} (a : Nat → Int32) (x : Nat → X_) {n : Nat} {E : Option (α × X_)}
    (h1 : ∀ i L, i < n → B L (a i) (nI i) (x i) = L (a (i + 1)) (nI (i + 1)) (x (i + 1))) (h2 : ∀ L, B L (a n) (nI n) (x n) = E) : ∀ m i f, i + m = n → m < f → lz2 B f (a i) (nI i) (x i) = E := by
  intro m
  induction m with
  | zero =>
    intro i f hi hf
    obtain ⟨f, rfl⟩ : ∃ g, f = g + 1 := ⟨f - 1, by omega⟩
    rw [lz2_s, show i = n by omega]
    exact h2 _
  | succ m ih =>
    intro i f hi hf
    obtain ⟨f, rfl⟩ : ∃ g, f = g + 1 := ⟨f - 1, by omega⟩
    rw [lz2_s, h1 i _ (by omega)]
    exact ih (i + 1) f (by omega) (by omega)
/-- the first variable adds up, nothing else changes -/
theorem lz2_lo {B : (Int32 → Int32 → RM α) → Int32 → Int32 → RM α} {X : X_} (g : Nat → Int32 → Int32) {n : Nat} {a0 : Int32} {E : Int32 → Option (α × X_)} (hn : n < 5000)
    (h1 : ∀ i a L, i < n → B L a (nI i) X = L (g i a) (nI (i + 1)) X) (h2 : ∀ a L, B L a (nI n) X = E a) : lz2 B FU a0 0 X = E (lo g n a0) :=
  lz2_from (fun i => lo g i a0) (fun _ => X) (fun i L hi => h1 i _ L hi) (fun L => h2 _ L) n 0 FU (by omega) (by rw [FU_eq]; exact hn)
/-- the bits of those of which p holds -/
theorem lo_bo {p : Nat → Bool} : ∀ n, lo (fun i (a : Int32) => if p i = true then a ||| (1 <<< (nI i &&& 31)) else a) n 0 = bo p n := by
  intro n
  induction n with
  | zero => rfl
  | succ n ih => rw [lo, bo, ih]
theorem lz2_bo {B : (Int32 → Int32 → RM α) → Int32 → Int32 → RM α} {X : X_} (p : Nat → Bool) {n : Nat} {E : Int32 → Option (α × X_)} (hn : n < 5000)
    (h1 : ∀ i a L, i < n → B L a (nI i) X = if p i = true then L (a ||| (1 <<< (nI i &&& 31))) (nI (i + 1)) X else L a (nI (i + 1)) X) (h2 : ∀ a L, B L a (nI n) X = E a) : lz2 B FU 0 0 X = E (bo p n) := by
  rw [← lo_bo]
  refine lz2_lo _ hn (fun i a L hi => ?_) h2
  rw [h1 i a L hi]
  by_cases c : p i = true
  · simp only [if_pos c]
  · simp only [if_neg c]
/-- the first one of which p holds -/
theorem lz1_ff {B : (Int32 → RM Int32) → Int32 → RM Int32} {X : X_} (p : Nat → Bool) {n : Nat} (hn : n < 5000)
    (h1 : ∀ i L, i < n → B L (nI i) X = if p i = true then some (nI i, X) else L (nI (i + 1)) X) (h2 : ∀ L, B L (nI n) X = some (-1, X)) : lz1 B FU 0 X = some (ff p 0 n, X) := by
  have h : ∀ m i f, i + m = n → m < f → lz1 B f (nI i) X = some (ff p i m, X) := by
    intro m
    induction m with
    | zero =>
      intro i f hi hf
      obtain ⟨f, rfl⟩ : ∃ g, f = g + 1 := ⟨f - 1, by omega⟩
      rw [lz1_s, show i = n by omega, h2]
      rfl
    | succ m ih =>
      intro i f hi hf
      obtain ⟨f, rfl⟩ : ∃ g, f = g + 1 := ⟨f - 1, by omega⟩
      rw [lz1_s, h1 i _ (by omega), ff]
      by_cases c : p i = true
      · rw [if_pos c, if_pos c]
      · rw [if_neg c, if_neg c]
        exact ih (i + 1) f (by omega) (by omega)
  exact h n 0 FU (by omega) (by rw [FU_eq]; exact hn)
/-- the loop by what is said at each count -/
theorem lz2_all {B : (Int32 → Int32 → RM α) → Int32 → Int32 → RM α} {n : Nat} (R : Nat → Int32 → X_ → Option (α × X_) → Prop)
    (h0 : ∀ a X o L, R n a X o → B L a (nI n) X = o)
    (h1 : ∀ i a X o L, i < n → R i a X o → (∀ a' X' o', R (i + 1) a' X' o' → L a' (nI (i + 1)) X' = o') → B L a (nI i) X = o) :
    ∀ m i f a X o, i + m = n → m < f → R i a X o → lz2 B f a (nI i) X = o := by
  intro m
  induction m with
  | zero =>
    intro i f a X o hi hf hR
    obtain ⟨f, rfl⟩ : ∃ g, f = g + 1 := ⟨f - 1, by omega⟩
    rw [lz2_s]
    obtain rfl : i = n := by omega
    exact h0 a X o _ hR
  | succ m ih =>
    intro i f a X o hi hf hR
    obtain ⟨f, rfl⟩ : ∃ g, f = g + 1 := ⟨f - 1, by omega⟩
    rw [lz2_s]
    exact h1 i a X o _ (by omega) hR (fun a' X' o' hR' => ih (i + 1) f a' X' o' (by omega) (by omega) hR')
theorem lz1_all {B : (Int32 → RM α) → Int32 → RM α} {n : Nat} (R : Nat → X_ → Option (α × X_) → Prop)
    (h0 : ∀ X o L, R n X o → B L (nI n) X = o)
    (h1 : ∀ i X o L, i < n → R i X o → (∀ X' o', R (i + 1) X' o' → L (nI (i + 1)) X' = o') → B L (nI i) X = o) :
    ∀ m i f X o, i + m = n → m < f → R i X o → lz1 B f (nI i) X = o := by
  intro m
  induction m with
  | zero =>
    intro i f X o hi hf hR
    obtain ⟨f, rfl⟩ : ∃ g, f = g + 1 := ⟨f - 1, by omega⟩
    rw [lz1_s]
    obtain rfl : i = n := by omega
    exact h0 X o _ hR
  | succ m ih =>
    intro i f X o hi hf hR
    obtain ⟨f, rfl⟩ : ∃ g, f = g + 1 := ⟨f - 1, by omega⟩
    rw [lz1_s]
    exact h1 i X o _ (by omega) hR (fun X' o' hR' => ih (i + 1) f X' o' (by omega) (by omega) hR')
/-- a loop by a measure -/
theorem lz0_all {B : RM α → RM α} (R : Nat → X_ → Option (α × X_) → Prop)
    (h1 : ∀ m X o L, R m X o → (∀ m' X' o', m' < m → R m' X' o' → L X' = o') → B L X = o) :
    ∀ f m X o, m < f → R m X o → lz0 B f X = o := by
  intro f
  induction f with
  | zero => intro m X o hm; omega
  | succ f ih =>
    intro m X o hm hR
    rw [lz0_s]
    exact h1 m X o _ hR (fun m' X' o' hm' hR' => ih m' X' o' (by omega) hR')
theorem lz1_meas {B : (Int32 → RM α) → Int32 → RM α} (R : Nat → Int32 → X_ → Option (α × X_) → Prop)
    (h1 : ∀ m a X o L, R m a X o → (∀ m' a' X' o', m' < m → R m' a' X' o' → L a' X' = o') → B L a X = o) :
    ∀ f m a X o, m < f → R m a X o → lz1 B f a X = o := by
  intro f
  induction f with
  | zero => intro m a X o hm; omega
  | succ f ih =>
    intro m a X o hm hR
    rw [lz1_s]
    exact h1 m a X o _ hR (fun m' a' X' o' hm' hR' => ih m' a' X' o' (by omega) hR')
theorem lz2_meas {B : (Int32 → Int32 → RM α) → Int32 → Int32 → RM α} (R : Nat → Int32 → Int32 → X_ → Option (α × X_) → Prop)
    (h1 : ∀ m a b X o L, R m a b X o → (∀ m' a' b' X' o', m' < m → R m' a' b' X' o' → L a' b' X' = o') → B L a b X = o) :
    ∀ f m a b X o, m < f → R m a b X o → lz2 B f a b X = o := by
  intro f
  induction f with
  | zero => intro m a b X o hm; omega
  | succ f ih =>
    intro m a b X o hm hR
    rw [lz2_s]
    exact h1 m a b X o _ hR (fun m' a' b' X' o' hm' hR' => ih m' a' b' X' o' (by omega) hR')
/-- the loop by what is so at each count, and what comes of it -/
theorem lz1_post {B : (Int32 → RM α) → Int32 → RM α} {n : Nat} (I : Nat → X_ → Prop) (Q : Option (α × X_) → Prop)
    (h0 : ∀ X L, I n X → Q (B L (nI n) X))
    (h1 : ∀ i X L, i < n → I i X → (∀ X', I (i + 1) X' → Q (L (nI (i + 1)) X')) → Q (B L (nI i) X)) :
    ∀ m i f X, i + m = n → m < f → I i X → Q (lz1 B f (nI i) X) := by
  intro m
  induction m with
  | zero =>
    intro i f X hi hf hR
    obtain ⟨f, rfl⟩ : ∃ g, f = g + 1 := ⟨f - 1, by omega⟩
    rw [lz1_s]
    obtain rfl : i = n := by omega
    exact h0 X _ hR
  | succ m ih =>
    intro i f X hi hf hR
    obtain ⟨f, rfl⟩ : ∃ g, f = g + 1 := ⟨f - 1, by omega⟩
    rw [lz1_s]
    exact h1 i X _ (by omega) hR (fun X' hR' => ih (i + 1) f X' (by omega) (by omega) hR')
theorem lz2_post {B : (Int32 → Int32 → RM α) → Int32 → Int32 → RM α} {n : Nat} (I : Nat → Int32 → X_ → Prop) (Q : Option (α × X_) → Prop)
    (h0 : ∀ a X L, I n a X → Q (B L a (nI n) X))
    (h1 : ∀ i a X L, i < n → I i a X → (∀ a' X', I (i + 1) a' X' → Q (L a' (nI (i + 1)) X')) → Q (B L a (nI i) X)) :
    ∀ m i f a X, i + m = n → m < f → I i a X → Q (lz2 B f a (nI i) X) := by
  intro m
  induction m with
  | zero =>
    intro i f a X hi hf hR
    obtain ⟨f, rfl⟩ : ∃ g, f = g + 1 := ⟨f - 1, by omega⟩
    rw [lz2_s]
    obtain rfl : i = n := by omega
    exact h0 a X _ hR
  | succ m ih =>
    intro i f a X hi hf hR
    obtain ⟨f, rfl⟩ : ∃ g, f = g + 1 := ⟨f - 1, by omega⟩
    rw [lz2_s]
    exact h1 i a X _ (by omega) hR (fun a' X' hR' => ih (i + 1) f a' X' (by omega) (by omega) hR')
theorem lz0_post {B : RM α → RM α} (I : Nat → X_ → Prop) (Q : Option (α × X_) → Prop)
    (h1 : ∀ m X L, I m X → (∀ m' X', m' < m → I m' X' → Q (L X')) → Q (B L X)) :
    ∀ f m X, m < f → I m X → Q (lz0 B f X) := by
  intro f
  induction f with
  | zero => intro m X hm; omega
  | succ f ih =>
    intro m X hm hR
    rw [lz0_s]
    exact h1 m X _ hR (fun m' X' hm' hR' => ih m' X' (by omega) hR')
theorem lz1_mpost {B : (Int32 → RM α) → Int32 → RM α} (I : Nat → Int32 → X_ → Prop) (Q : Option (α × X_) → Prop)
    (h1 : ∀ m a X L, I m a X → (∀ m' a' X', m' < m → I m' a' X' → Q (L a' X')) → Q (B L a X)) :
    ∀ f m a X, m < f → I m a X → Q (lz1 B f a X) := by
  intro f
  induction f with
  | zero => intro m a X hm; omega
  | succ f ih =>
    intro m a X hm hR
    rw [lz1_s]
    exact h1 m a X _ hR (fun m' a' X' hm' hR' => ih m' a' X' (by omega) hR')
theorem lz2_mpost {B : (Int32 → Int32 → RM α) → Int32 → Int32 → RM α} (I : Nat → Int32 → Int32 → X_ → Prop) (Q : Option (α × X_) → Prop)
    (h1 : ∀ m a b X L, I m a b X → (∀ m' a' b' X', m' < m → I m' a' b' X' → Q (L a' b' X')) → Q (B L a b X)) :
    ∀ f m a b X, m < f → I m a b X → Q (lz2 B f a b X) := by
  intro f
  induction f with
  | zero => intro m a b X hm; omega
  | succ f ih =>
    intro m a b X hm hR
    rw [lz2_s]
    exact h1 m a b X _ hR (fun m' a' b' X' hm' hR' => ih m' a' b' X' (by omega) hR')
end LP
