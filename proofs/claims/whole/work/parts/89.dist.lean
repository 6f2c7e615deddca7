/-! the fewest routes to a section: two ways to work them out -/
section DI
theorem cf_mono {p q : Nat → Bool} : ∀ n, (∀ i, i < n → p i = true → q i = true) → cf p 0 n ≤ cf q 0 n := by
  intro n
  induction n with
  | zero => intro _; exact Nat.le_refl _
  | succ n ih =>
    intro h
    have := ih (fun i hi => h i (by omega))
    rw [cf, cf, Nat.zero_add]
    by_cases c : p n = true
    · rw [if_pos c, if_pos (h n (by omega) c)]; omega
    · rw [if_neg c]
      split <;> omega
theorem cf_back {p q : Nat → Bool} : ∀ n, (∀ i, i < n → p i = true → q i = true) → cf q 0 n ≤ cf p 0 n → ∀ i, i < n → q i = true → p i = true := by
  intro n
  induction n with
  | zero => intro _ _ i hi; omega
  | succ n ih =>
    intro h h2 i hi hq
    have m := cf_mono n (fun i hi => h i (by omega))
    rw [cf, cf, Nat.zero_add] at h2
    by_cases c : p n = true
    · rw [if_pos c, if_pos (h n (by omega) c)] at h2
      by_cases e : i = n
      · subst e; exact c
      · exact ih (fun i hi => h i (by omega)) (by omega) i (by omega) hq
    · rw [if_neg c] at h2
      by_cases d : q n = true
      · rw [if_pos d] at h2; omega
      · rw [if_neg d] at h2
        by_cases e : i = n
        · subst e; exact absurd hq d
        · exact ih (fun i hi => h i (by omega)) (by omega) i (by omega) hq
theorem cf_full {p : Nat → Bool} : ∀ n, n ≤ cf p 0 n → ∀ i, i < n → p i = true := by
  intro n
  induction n with
  | zero => intro _ i hi; omega
  | succ n ih =>
    intro h i hi
    have m := cf_le p 0 n
    rw [cf, Nat.zero_add] at h
    by_cases c : p n = true
    · rw [if_pos c] at h
      by_cases e : i = n
      · subst e; exact c
      · exact ih (by omega) i (by omega)
    · rw [if_neg c] at h; omega
variable (act hit : Nat → Bool) (src dst : Nat → Nat) (R : Nat)
/-- within k routes -/
def rc : Nat → Nat → Bool
  | 0, _ => false
  | k + 1, s => an (fun r => (act r && (hit r || rc k (dst r))) && decide (src r = s)) R
def en (k r : Nat) : Bool := act r && (hit r || rc act hit src dst R k (dst r))
theorem rc_iff {k s : Nat} : rc act hit src dst R (k + 1) s = true ↔ ∃ r, r < R ∧ en act hit src dst R k r = true ∧ src r = s := by
  rw [rc, an_iff]
  constructor
  · rintro ⟨r, hr, h⟩
    rw [Bool.and_eq_true] at h
    exact ⟨r, hr, h.1, of_decide_eq_true h.2⟩
  · rintro ⟨r, hr, h1, h2⟩
    exact ⟨r, hr, by rw [Bool.and_eq_true]; exact ⟨h1, decide_eq_true h2⟩⟩
theorem en_iff {k r : Nat} : en act hit src dst R k r = true ↔ act r = true ∧ (hit r = true ∨ rc act hit src dst R k (dst r) = true) := by
  unfold en
  rw [Bool.and_eq_true, Bool.or_eq_true]
theorem rc_mono : ∀ k s, rc act hit src dst R k s = true → rc act hit src dst R (k + 1) s = true := by
  intro k
  induction k with
  | zero => intro s h; exact absurd h (by rw [rc]; decide)
  | succ k ih =>
    intro s h
    rw [rc_iff] at h ⊢
    obtain ⟨r, hr, h1, h2⟩ := h
    rw [en_iff] at h1
    exact ⟨r, hr, (en_iff act hit src dst R).mpr ⟨h1.1, h1.2.imp id (fun z => ih _ z)⟩, h2⟩
theorem en_mono {k r : Nat} (h : en act hit src dst R k r = true) : en act hit src dst R (k + 1) r = true := by
  rw [en_iff] at h ⊢
  exact ⟨h.1, h.2.imp id (fun z => rc_mono act hit src dst R _ _ z)⟩
theorem en_stable {k : Nat} (h : ∀ r, r < R → en act hit src dst R (k + 1) r = true → en act hit src dst R k r = true) : ∀ j r, r < R → en act hit src dst R (k + j) r = true → en act hit src dst R k r = true := by
  intro j
  induction j with
  | zero => intro r _ e; exact e
  | succ j ih =>
    intro r hr e
    refine h r hr ?_
    rw [show k + (j + 1) = (k + j) + 1 by omega, en_iff] at e
    rw [en_iff]
    refine ⟨e.1, e.2.imp id (fun z => ?_)⟩
    rw [rc_iff] at z ⊢
    obtain ⟨q, hq, h1, h2⟩ := z
    exact ⟨q, hq, ih q hq h1, h2⟩
theorem en_le {j k r : Nat} (h : en act hit src dst R j r = true) (hk : j ≤ k) : en act hit src dst R k r = true := by
  obtain ⟨d, rfl⟩ : ∃ d, k = j + d := ⟨k - j, by omega⟩
  clear hk
  induction d with
  | zero => exact h
  | succ d ih => exact en_mono act hit src dst R ih
theorem en_all {k : Nat} (h : ∀ r, r < R → en act hit src dst R (k + 1) r = true → en act hit src dst R k r = true) {j r : Nat} (hr : r < R) (e : en act hit src dst R j r = true) : en act hit src dst R k r = true := by
  by_cases c : j ≤ k
  · exact en_le act hit src dst R e c
  · refine en_stable act hit src dst R h (j - k) r hr ?_
    rw [show k + (j - k) = j by omega]
    exact e
theorem en_count : ∀ k, k + 1 ≤ cf (en act hit src dst R k) 0 R ∨ ∀ j r, r < R → en act hit src dst R j r = true → en act hit src dst R k r = true := by
  intro k
  induction k with
  | zero =>
    by_cases c : 1 ≤ cf (en act hit src dst R 0) 0 R
    · exact Or.inl c
    · right
      intro j r hr e
      refine en_all act hit src dst R (k := 0) (fun r hr e => ?_) hr e
      rw [en_iff] at e ⊢
      refine ⟨e.1, e.2.imp id (fun z => ?_)⟩
      rw [rc_iff] at z
      obtain ⟨q, hq, h1, h2⟩ := z
      have := cf_mono (p := fun i => decide (i = q)) (q := en act hit src dst R 0) R (fun i hi e => by rw [of_decide_eq_true e]; exact h1)
      have one : 1 ≤ cf (fun i => decide (i = q)) 0 R := by
        have s := cf_split (fun i => decide (i = q)) 0 q (R - q)
        rw [show q + (R - q) = R by omega, show R - q = 1 + (R - q - 1) by omega, cf_split (fun i => decide (i = q)) (0 + q) 1] at s
        have c1 : cf (fun i => decide (i = q)) (0 + q) 1 = 1 := by
          show 0 + (if decide (0 + q + 0 = q) = true then 1 else 0) = 1
          rw [if_pos (decide_eq_true (by omega))]
        omega
      omega
  | succ k ih =>
    rcases ih with ih | ih
    · by_cases c : k + 1 + 1 ≤ cf (en act hit src dst R (k + 1)) 0 R
      · exact Or.inl c
      · right
        have b := cf_back (p := en act hit src dst R k) (q := en act hit src dst R (k + 1)) R (fun i _ e => en_mono act hit src dst R e) (by omega)
        intro j r hr e
        exact en_mono act hit src dst R (en_all act hit src dst R b hr e)
    · exact Or.inr (fun j r hr e => en_mono act hit src dst R (ih j r hr e))
/-- no more than there are routes -/
theorem rc_R {k s : Nat} (h : rc act hit src dst R k s = true) : rc act hit src dst R R s = true := by
  obtain ⟨j, rfl⟩ : ∃ j, k = j + 1 := by
    cases k with
    | zero => exact absurd h (by rw [rc]; decide)
    | succ j => exact ⟨j, rfl⟩
  rw [rc_iff] at h
  obtain ⟨r, hr, h1, h2⟩ := h
  obtain ⟨Q, hQ⟩ : ∃ Q, R = Q + 1 := ⟨R - 1, by omega⟩
  have : en act hit src dst R Q r = true := by
    rcases en_count act hit src dst R Q with c | c
    · exact cf_full R (by omega) r hr
    · exact c j r hr h1
  have e : rc act hit src dst R R s = rc act hit src dst R (Q + 1) s := by rw [← hQ]
  rw [e, rc_iff]
  exact ⟨r, hr, this, h2⟩
def uN (f : Nat → Nat) (k v : Nat) : Nat → Nat := fun j => if j = k then v else f j
def cst (δ : Nat → Nat) (r : Nat) : Nat := if hit r = true then 1 else 1 + δ (dst r)
def sN (r : Nat) (δ : Nat → Nat) : Nat → Nat := if act r = true then uN δ (src r) (if cst hit dst δ r < δ (src r) then cst hit dst δ r else δ (src r)) else δ
def LB (I : Nat) (δ : Nat → Nat) : Prop := ∀ s, δ s ≤ I ∧ (δ s = I ∨ rc act hit src dst R (δ s) s = true)
def UB (i : Nat) (δ : Nat → Nat) : Prop := ∀ k s, k ≤ i → rc act hit src dst R k s = true → δ s ≤ k
def FX (δ : Nat → Nat) : Prop := ∀ r, r < R → act r = true → δ (src r) ≤ cst hit dst δ r
theorem sN_le (r : Nat) (δ : Nat → Nat) (s : Nat) : sN act hit src dst r δ s ≤ δ s := by
  unfold sN uN
  split
  · show (if s = src r then _ else δ s) ≤ δ s
    split
    · next e => subst e; split <;> omega
    · exact Nat.le_refl _
  · exact Nat.le_refl _
theorem lo_le (δ : Nat → Nat) (s : Nat) : ∀ m n, n ≤ m → lo (sN act hit src dst) m δ s ≤ lo (sN act hit src dst) n δ s := by
  intro m
  induction m with
  | zero => intro n h; rw [show n = 0 by omega]; exact Nat.le_refl _
  | succ m ih =>
    intro n h
    by_cases e : n = m + 1
    · subst e; exact Nat.le_refl _
    · exact Nat.le_trans (sN_le act hit src dst m _ s) (ih n (by omega))
theorem LB.step {I r : Nat} {δ : Nat → Nat} (h : LB act hit src dst R I δ) (hr : r < R) : LB act hit src dst R I (sN act hit src dst r δ) := fun s => by
  unfold sN uN
  by_cases a : act r = true
  · rw [if_pos a]
    show (if s = src r then _ else δ s) ≤ I ∧ _
    by_cases e : s = src r
    · subst e
      rw [if_pos rfl]
      by_cases c : cst hit dst δ r < δ (src r)
      · rw [if_pos c]
        have hI := (h (src r)).1
        refine ⟨by omega, Or.inr ?_⟩
        unfold cst at c ⊢
        by_cases t : hit r = true
        · rw [if_pos t]
          exact (rc_iff act hit src dst R).mpr ⟨r, hr, (en_iff act hit src dst R).mpr ⟨a, Or.inl t⟩, rfl⟩
        · rw [if_neg t] at c ⊢
          rw [Nat.add_comm, rc_iff]
          refine ⟨r, hr, (en_iff act hit src dst R).mpr ⟨a, Or.inr ?_⟩, rfl⟩
          rcases (h (dst r)).2 with z | z
          · omega
          · exact z
      · rw [if_neg c]; exact h _
    · rw [if_neg e]; exact h s
  · rw [if_neg a]; exact h s
theorem LB.pass {I : Nat} {δ : Nat → Nat} (h : LB act hit src dst R I δ) : ∀ n, n ≤ R → LB act hit src dst R I (lo (sN act hit src dst) n δ) := by
  intro n
  induction n with
  | zero => intro _; exact h
  | succ n ih => intro hn; exact LB.step act hit src dst R (ih (by omega)) (by omega)
theorem UB.pass {i : Nat} {δ : Nat → Nat} (h : UB act hit src dst R i δ) : UB act hit src dst R (i + 1) (lo (sN act hit src dst) R δ) := by
  intro k s hk e
  obtain ⟨j, rfl⟩ : ∃ j, k = j + 1 := by
    cases k with
    | zero => exact absurd e (by rw [rc]; decide)
    | succ j => exact ⟨j, rfl⟩
  rw [rc_iff] at e
  obtain ⟨r, hr, h1, rfl⟩ := e
  rw [en_iff] at h1
  refine Nat.le_trans (lo_le act hit src dst δ (src r) R (r + 1) (by omega)) ?_
  have hc : cst hit dst (lo (sN act hit src dst) r δ) r ≤ j + 1 := by
    unfold cst
    by_cases t : hit r = true
    · rw [if_pos t]; omega
    · rw [if_neg t]
      have h2 := h1.2.resolve_left t
      have := h j (dst r) (by omega) h2
      have := lo_le act hit src dst δ (dst r) r 0 (by omega)
      have : lo (sN act hit src dst) 0 δ (dst r) = δ (dst r) := rfl
      omega
  rw [lo]
  generalize lo (sN act hit src dst) r δ = δ' at hc
  unfold sN uN
  rw [if_pos h1.1]
  show (if src r = src r then _ else _) ≤ _
  rw [if_pos rfl]
  split <;> omega
/-- worked out -/
def DN (I : Nat) (δ : Nat → Nat) : Prop := LB act hit src dst R I δ ∧ ∀ k s, rc act hit src dst R k s = true → δ s ≤ k
theorem DN_R {I : Nat} {δ : Nat → Nat} (h : LB act hit src dst R I δ) (h2 : UB act hit src dst R R δ) : DN act hit src dst R I δ := ⟨h, fun k s e => by
  by_cases c : k ≤ R
  · exact h2 k s c e
  · have := h2 R s (Nat.le_refl _) (rc_R act hit src dst R e)
    omega⟩
theorem DN_FX {I : Nat} {δ : Nat → Nat} (h : LB act hit src dst R I δ) (h2 : FX act hit src dst R δ) : DN act hit src dst R I δ := ⟨h, fun k => by
  induction k with
  | zero => intro s e; exact absurd e (by rw [rc]; decide)
  | succ k ih =>
    intro s e
    rw [rc_iff] at e
    obtain ⟨r, hr, h1, rfl⟩ := e
    rw [en_iff] at h1
    refine Nat.le_trans (h2 r hr h1.1) ?_
    unfold cst
    by_cases t : hit r = true
    · rw [if_pos t]; omega
    · rw [if_neg t]
      have := ih (dst r) (h1.2.resolve_left t)
      omega⟩
theorem DN.fx {I : Nat} {δ : Nat → Nat} (h : DN act hit src dst R I δ) : FX act hit src dst R δ := fun r hr a => by
  unfold cst
  by_cases t : hit r = true
  · rw [if_pos t]
    exact h.2 1 _ ((rc_iff act hit src dst R).mpr ⟨r, hr, (en_iff act hit src dst R).mpr ⟨a, Or.inl t⟩, rfl⟩)
  · rw [if_neg t]
    rcases (h.1 (dst r)).2 with z | z
    · have := (h.1 (src r)).1
      omega
    · have := h.2 (δ (dst r) + 1) (src r) ((rc_iff act hit src dst R).mpr ⟨r, hr, (en_iff act hit src dst R).mpr ⟨a, Or.inr z⟩, rfl⟩)
      omega
/-- both the same, where they lead there -/
theorem DN.same {I J : Nat} {δ ε : Nat → Nat} (h : DN act hit src dst R I δ) (g : DN act hit src dst R J ε) (hI : R < I) (hJ : R < J) (s : Nat) : (δ s = I ∧ ε s = J) ∨ (δ s = ε s ∧ δ s ≤ R ∧ rc act hit src dst R (δ s) s = true) := by
  by_cases c : rc act hit src dst R R s = true
  · right
    have h1 := h.2 R s c
    have g1 := g.2 R s c
    have h2 := (h.1 s).2.resolve_left (by omega)
    have g2 := (g.1 s).2.resolve_left (by omega)
    have h3 := h.2 _ s g2
    have g3 := g.2 _ s h2
    exact ⟨by omega, h1, h2⟩
  · left
    refine ⟨(h.1 s).2.resolve_right (fun z => c (rc_R act hit src dst R z)), (g.1 s).2.resolve_right (fun z => c (rc_R act hit src dst R z))⟩
/-- where it leads there, some route is the next -/
theorem DN.next {I : Nat} {δ : Nat → Nat} (h : DN act hit src dst R I δ) {s : Nat} (e : rc act hit src dst R (δ s) s = true) : ∃ r, r < R ∧ act r = true ∧ src r = s ∧ cst hit dst δ r = δ s := by
  obtain ⟨j, hj⟩ : ∃ j, δ s = j + 1 := by
    cases z : δ s with
    | zero => rw [z] at e; exact absurd e (by rw [rc]; decide)
    | succ j => exact ⟨j, rfl⟩
  rw [hj, rc_iff] at e
  obtain ⟨r, hr, h1, rfl⟩ := e
  rw [en_iff] at h1
  refine ⟨r, hr, h1.1, rfl, ?_⟩
  have f := h.fx act hit src dst R r hr h1.1
  have : cst hit dst δ r ≤ j + 1 := by
    unfold cst
    by_cases t : hit r = true
    · rw [if_pos t]; omega
    · rw [if_neg t]
      have := h.2 j (dst r) (h1.2.resolve_left t)
      omega
  omega
end DI
