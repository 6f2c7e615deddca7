/-! the law's own row of longs (cell 239) is nothing to the two classes -/
def F9 {α : Type} (f : RM α) : Prop := ∀ (X : X_) (w : Int64) (r : α) (X' : X_), f X = some (r, X') → f (sJ X 239 0 w) = some (r, sJ X' 239 0 w)
section FN
variable {α β : Type}
theorem F9_re (v : α) : F9 (re v) := fun X w r X' h => by
  have e : (v, X) = (r, X') := Option.some.inj h
  obtain ⟨rfl, rfl⟩ := Prod.mk.inj e
  rfl
theorem F9_th : F9 (th : RM α) := fun X w r X' h => by cases h
theorem F9_it {c : Prop} [Decidable c] {A B : RM α} (hA : F9 A) (hB : F9 B) : F9 (it c A B) := fun X w r X' h => by
  by_cases q : c
  · rw [it_t q] at h ⊢; exact hA X w r X' h
  · rw [it_f q] at h ⊢; exact hB X w r X' h
theorem F9_gI {a k : Nat} {F : Int32 → RM α} (h : ∀ v, F9 (F v)) : F9 (gI a k F) := fun X w r X' e => h _ X w r X' e
theorem F9_rA {a n : Nat} {i : Int32} {F : Int32 → RM α} (h : ∀ v, F9 (F v)) : F9 (rA a n i F) := fun X w r X' e => by
  have e' : (if i < 0 ∨ n ≤ i.toNatClampNeg then none else F (X.1 a i.toNatClampNeg) X) = some (r, X') := e
  show (if i < 0 ∨ n ≤ i.toNatClampNeg then none else F (X.1 a i.toNatClampNeg) (sJ X 239 0 w)) = _
  by_cases q : i < 0 ∨ n ≤ i.toNatClampNeg
  · rw [if_pos q] at e'; cases e'
  · rw [if_neg q] at e' ⊢; exact h _ X w r X' e'
theorem F9_nz {y : Int32} {F : RM α} (h : F9 F) : F9 (nz y F) := fun X w r X' e => by
  have e' : (if y = 0 then none else F X) = some (r, X') := e
  show (if y = 0 then none else F (sJ X 239 0 w)) = _
  by_cases q : y = 0
  · rw [if_pos q] at e'; cases e'
  · rw [if_neg q] at e' ⊢; exact h X w r X' e'
theorem F9_ca {f : RM β} {F : β → RM α} (hf : F9 f) (hF : ∀ v, F9 (F v)) : F9 (ca f F) := fun X w r X' e => by
  cases c : f X with
  | none =>
    have e' : (match f X with | none => none | some p => F p.1 p.2) = some (r, X') := e
    rw [c] at e'; cases e'
  | some p =>
    obtain ⟨v, X1⟩ := p
    rw [ca_s c] at e
    rw [ca_s (hf X w v X1 c)]
    exact hF v X1 w r X' e
theorem F9_gd {c : X_ → Prop} {v : X_ → α} (hc : ∀ X w, c (sJ X 239 0 w) = c X) (hv : ∀ X w, v (sJ X 239 0 w) = v X) : F9 (gd c (fun X => some (v X, X))) := fun X w r X' e => by
  by_cases q : c X
  · have e' : some (v X, X) = some (r, X') := by
      have : gd c (fun X => some (v X, X)) X = some (v X, X) := if_pos q
      rw [← this]; exact e
    obtain ⟨rfl, rfl⟩ := Prod.mk.inj (Option.some.inj e')
    have q' : c (sJ X 239 0 w) := by rw [hc]; exact q
    have : gd c (fun X => some (v X, X)) (sJ X 239 0 w) = some (v (sJ X 239 0 w), sJ X 239 0 w) := if_pos q'
    rw [this, hv]
  · have : gd c (fun X => some (v X, X)) X = none := if_neg q
    rw [this] at e; cases e
theorem F9_lz3 {B : (Int32 → Int32 → Int32 → RM α) → Int32 → Int32 → Int32 → RM α} (hB : ∀ L : Int32 → Int32 → Int32 → RM α, (∀ x y z, F9 (L x y z)) → ∀ x y z, F9 (B L x y z)) : ∀ n x y z, F9 (lz3 B n x y z) := by
  intro n
  induction n with
  | zero => intro x y z X w r X' e; cases e
  | succ n ih => intro x y z; exact hB _ ih x y z
end FN
theorem F9_has (p : Nat) (a b : Int32) : F9 (fX5_has p a b) := by
  unfold fX5_has
  exact F9_gd (c := fun X => a = nI a.toNatClampNeg ∧ a.toNatClampNeg < 8) (v := fun X => b2 (decide (0 ≤ b ∧ b < bP X p 1 a.toNatClampNeg))) (fun _ _ => rfl) (fun _ _ => rfl)
theorem F9_usedBy (s : Nat) (a : Int32) : F9 (fX8_routesUsedBy s a) := by
  unfold fX8_routesUsedBy
  exact F9_gd (c := fun X => okP (bP X 4)) (v := fun X => s_routesUsedBy (bP X 4) (bV X s) a) (fun _ _ => rfl) (fun _ _ => rfl)
theorem F9_waited (s : Nat) : F9 (fX8_waitedByAll s) := by
  unfold fX8_waitedByAll
  exact F9_gd (c := fun X => okP (bP X 4)) (v := fun X => s_waitedByAll (bP X 4) (bV X s)) (fun _ _ => rfl) (fun _ _ => rfl)
theorem F9_gcd (a b : Int32) : F9 (fX11_greatestCommon a b) := by
  unfold fX11_greatestCommon
  exact F9_lz3 (fun L hL x y z => F9_it (F9_re _) (F9_it (F9_re _) (F9_nz (hL _ _ _)))) FU a b 0
theorem F9_train (a b : Int32) : F9 (fX11_train a b) := by
  unfold fX11_train
  exact F9_ca (F9_has 4 6 a) (fun v => F9_it F9_th (F9_it (F9_rA fun _ => F9_re _) (F9_it (F9_rA fun _ => F9_re _) (F9_it (F9_rA fun _ => F9_re _) (F9_it (F9_gI fun _ => F9_re _) (F9_it (F9_gI fun _ => F9_re _) (F9_it (F9_rA fun _ => F9_re _) (F9_it (F9_ca (F9_usedBy 47 a) fun _ => F9_re _) F9_th))))))))
theorem F9_mean (a : Int32) : F9 (fX11_mean a) := by
  unfold fX11_mean
  exact F9_rA (fun v1 => F9_it F9_th (F9_it F9_th (F9_it (F9_ca (F9_waited 47) fun v2 => F9_ca (F9_gcd v2 v1) fun v3 => F9_it (F9_it (F9_nz (F9_re _)) (F9_nz (F9_re _))) (F9_re _)) F9_th)))
theorem Inv.out {X : X_} {k : Nat} {v : Int64} (h : Inv X) : Inv (sJ X 239 k v) := by
  have r : ∀ a, ¬ a = 239 → (sJ X 239 k v).2.1 a = X.2.1 a := fun a ha => by
    funext j
    show (if a = 239 ∧ j = k then v else X.2.1 a j) = _
    rw [if_neg (fun z => ha z.1)]
  have pj : ∀ p, p ≤ 197 → bPJ (sJ X 239 k v) p = bPJ X p := fun p hp => bL_same (fun a _ h2 => r a (by omega))
  obtain ⟨h1, h2, h3, h4, h5, h6, h7, h8, h9, h10⟩ := h
  refine ⟨h1, ?_, ?_, h4, ?_, h6, h7, h8, h9, h10⟩
  · intro i hi
    rw [r 3 (by decide), r 224 (by decide)]
    exact h2 i hi
  · unfold I_w
    rw [pj 4 (by decide), r 223 (by decide)]
    exact h3
  · unfold I_i I_i1
    rw [pj (150 + 1) (by decide), pj (184 + 1) (by decide), r 237 (by decide)]
    exact h5
theorem lg_cmp_self (x : Int64) : lg_cmp x x = 0 := by
  unfold lg_cmp
  rw [if_neg (show ¬ x > x from Int64.lt_irrefl), if_pos rfl]
theorem l_ge {i L : Nat} (hi : i ≤ 3072) (hL : L ≤ 3072) (c : ¬ nI L - 6 < nI i) : i + 6 ≤ L := by
  rcases Nat.lt_or_ge L 6 with h | h
  · have h1 : ∀ L, L < 6 → nI L - 6 < 0 := by decide
    have h2 : nI 0 ≤ nI i := nI_le (Nat.zero_le _) (by omega)
    exact absurd (Int32.lt_of_lt_of_le (h1 L h) h2) c
  · have e : nI L - 6 = nI (L - 6) := by
      have e1 : nI (L - 6) + nI 6 = nI L := by rw [nI_add, Nat.sub_add_cancel h]
      rw [← e1]
      exact Int32.add_sub_cancel _ _
    rw [e, nI_ltI (by omega) (by omega)] at c
    omega
