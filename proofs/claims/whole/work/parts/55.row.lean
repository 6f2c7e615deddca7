/-! the reference's row as a value of its own -/
def upS (S : Nat → Int32) (k : Nat) (v : Int32) : Nat → Int32 := fun j => if j = k then v else S j
def rowS (X : X_) (S : Nat → Int32) : X_ := (fun a => if a = 220 then S else X.1 a, X.2)
section RW
variable {P V : m_V} {X : X_} {S S' : Nat → Int32} {k j : Nat} {v : Int32}
theorem upS_eq : upS S k v k = v := if_pos rfl
theorem upS_ne (h : ¬ j = k) : upS S k v j = S j := if_neg h
theorem u2_eq {V : m_V} {x : Int32} : u2 V j k x j k = x := if_pos ⟨rfl, rfl⟩
theorem u2_ne {V : m_V} {x : Int32} {j' k' : Nat} (h : ¬ (j' = j ∧ k' = k)) : u2 V j k x j' k' = V j' k' := if_neg h
theorem rowS_220 : (rowS X S).1 220 = S := by simp [rowS]
theorem rowS_ne {a : Nat} (h : ¬ a = 220) : (rowS X S).1 a = X.1 a := if_neg h
theorem rowS_2 : (rowS X S).2 = X.2 := rfl
theorem rowS_self : rowS X (X.1 220) = X := by
  refine Prod.ext (funext fun a => ?_) rfl
  by_cases c : a = 220
  · subst c; simp [rowS]
  · exact if_neg c
theorem rowS_s : sI (rowS X S) 220 k v = rowS X (upS S k v) := by
  refine Prod.ext (funext fun a => funext fun j => ?_) rfl
  by_cases c : a = 220
  · subst c
    by_cases c2 : j = k <;> simp [sI, rowS, upS, c2]
  · simp [sI, rowS, c]
theorem rowS_s0 : sI X 220 k v = rowS X (upS (X.1 220) k v) := by
  conv => lhs; rw [← rowS_self (X := X)]
  rw [rowS_s]
theorem rowS_rowS : rowS (rowS X S) S' = rowS X S' := by
  refine Prod.ext (funext fun a => ?_) rfl
  by_cases c : a = 220 <;> simp [rowS, c]
theorem rowS_0 {j : Nat} {v : Int32} : sI (rowS X S) 218 j v = rowS (sI X 218 j v) S := by
  refine Prod.ext (funext fun a => funext fun i => ?_) rfl
  by_cases c : a = 220
  · subst c; simp [sI, rowS]
  · simp [sI, rowS, c]
/-- the layout and the sentence stay -/
def fr (S S' : Nat → Int32) : Prop := ∀ k, k < 226 ∨ 288 ≤ k → S' k = S k
theorem fr.refl : fr S S := fun _ _ => rfl
theorem fr.trans {S'' : Nat → Int32} (h : fr S S') (h2 : fr S' S'') : fr S S'' := fun k hk => (h2 k hk).trans (h k hk)
theorem fr.u (h : fr S S') (h1 : 226 ≤ k) (h2 : k < 288) : fr S (upS S' k v) := fun j hj => by
  rw [upS_ne (by omega)]
  exact h j hj
theorem RLa.fr (wL : wfL P) (h : RLa P S) (hf : fr S S') : RLa P S' := by
  have w := wL.ok
  have h0 := w.c0.2
  have h1 := w.c1.2
  have h2 := w.c2.2
  have h3 := w.c3.2
  have h4 := w.c4.2
  have h6 := w.c6.2
  refine ⟨fun k hk => ?_, fun k hk => ?_, fun k hk => ?_, fun k hk => ?_, fun k hk => ?_, fun r hr => ?_, fun t ht => ?_⟩
  · rw [hf k (by omega)]; exact h.1 k hk
  · rw [hf _ (by omega)]; exact h.len hk
  · rw [hf _ (by omega)]; exact h.lie hk
  · rw [hf _ (by omega), hf _ (by omega), hf _ (by omega), hf _ (by omega)]; exact h.t k hk
  · rw [hf _ (by omega), hf _ (by omega)]; exact h.2.2.2.2.1 k hk
  · rw [hf _ (by omega), hf _ (by omega), hf _ (by omega), hf _ (by omega), hf _ (by omega)]
    obtain ⟨q1, q2, q3, q4⟩ := h.r r hr
    refine ⟨q1, q2, fun k hk => ?_, q4⟩
    obtain ⟨-, ⟨m, em, hm, -⟩, -⟩ := wL.r r hr
    rw [em, nI_clamp (by omega)] at hk
    rw [hf _ (by omega)]
    exact q3 k (by rw [em, nI_clamp (by omega)]; exact hk)
  · rw [hf _ (by omega), hf _ (by omega)]; exact h.2.2.2.2.2.2 t ht
end RW
