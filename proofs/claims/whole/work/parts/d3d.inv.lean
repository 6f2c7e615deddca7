/-! what holds of the world made -/
def L12 : List (Nat × Nat × Int32) := [(0, 14, -1), (1, 8, -1), (5, 7, 3), (27, 7, 3), (146, 2, -1), (152, 7, 3), (186, 7, 3), (218, 33, -1), (218, 31, -1), (218, 25, -1)]
theorem L12_e : ([] ++ shI 0 LI_X11_init) ++ shI 218 LI_X12_init = L12 := by decide +kernel
theorem W12_i (a k : Nat) : W12.1 a k = lkI L12 a k := by
  rw [← L12_e]
  exact ZI_ex (ZI_ex ZI_0 (ZI_X11_init 0) rfl) (ZI_X12_init 218) (by decide +kernel) a k
theorem W12_j (a k : Nat) : W12.2.1 a k = lkJ (([] ++ shI 0 LJ_X11_init) ++ shI 218 LJ_X12_init) a k := ZJ_ex (ZJ_ex ZJ_0 (ZJ_X11_init 0) rfl) (ZJ_X12_init 218) rfl a k
theorem cpS_i (X : X_) : ∀ n a k, (cpS X n).1 a k = if a = 220 ∧ k < n then X.1 221 k else X.1 a k := by
  intro n
  induction n with
  | zero => intro a k; rw [if_neg (by omega)]; rfl
  | succ n ih =>
    intro a k
    show (if a = 220 ∧ k = n then (cpS X n).1 221 n else (cpS X n).1 a k) = _
    rw [ih, ih]
    by_cases c : a = 220 ∧ k = n
    · obtain ⟨rfl, rfl⟩ := c
      rw [if_pos ⟨rfl, rfl⟩, if_neg (by omega), if_pos ⟨rfl, Nat.lt_succ_self _⟩]
    · rw [if_neg c]
      by_cases d : a = 220 ∧ k < n
      · rw [if_pos d, if_pos (by omega)]
      · rw [if_neg d, if_neg (by omega)]
theorem cpS_r (X : X_) : ∀ n, (cpS X n).2 = X.2 := by
  intro n
  induction n with
  | zero => rfl
  | succ n ih => exact ih
theorem X12_i (a k : Nat) : X12.1 a k = lkI ((220, 7, 3) :: (221, 7, 3) :: L12) a k := by
  have e : ∀ k, X12a.1 221 k = if k = 7 then 3 else 0 := by
    intro k
    show (if k = 7 then 3 else if k < 226 then 0 else W12.1 221 k) = _
    rw [W12_i]
    have z : lkI L12 221 k = 0 := rfl
    rw [z, ite_self]
  have e2 : ∀ a, ¬ a = 221 → X12a.1 a = W12.1 a := fun a ha => if_neg ha
  show (cpS X12a 226).1 a k = if a = 220 ∧ k = 7 then 3 else if a = 221 ∧ k = 7 then 3 else lkI L12 a k
  rw [cpS_i, e]
  by_cases c : a = 220
  · subst c
    rw [e2 220 (by decide), W12_i]
    have z : lkI L12 220 k = 0 := rfl
    rw [z]
    by_cases d : k = 7
    · subst d; rfl
    · rw [if_neg d, ite_self, if_neg (fun q => d q.2), if_neg (fun q => d q.2)]
  · rw [if_neg (fun q => c q.1), if_neg (fun q => c q.1)]
    by_cases c2 : a = 221
    · subst c2
      rw [e]
      have z : lkI L12 221 k = 0 := rfl
      rw [z]
      by_cases d : k = 7
      · rw [if_pos d, if_pos ⟨rfl, d⟩]
      · rw [if_neg d, if_neg (fun q => d q.2)]
    · rw [if_neg (fun q => c2 q.1), e2 a c2, W12_i]
def F0' : m_V := fun j k => if j = 1 ∧ k = 7 then 3 else 0
theorem lk_z {L : List (Nat × Nat × Int32)} {a k : Nat} : (∀ e ∈ L, ¬ (a = e.1 ∧ k = e.2.1)) → lkI L a k = 0 := by
  induction L with
  | nil => intro _; rfl
  | cons e L ih =>
    intro h
    show (if a = e.1 ∧ k = e.2.1 then e.2.2 else lkI L a k) = 0
    rw [if_neg (h e (List.mem_cons_self ..))]
    exact ih (fun e' h' => h e' (List.mem_cons_of_mem _ h'))
/-- a cell of which no row speaks -/
theorem X12_z {a : Nat} (h : ((220, 7, (3 : Int32)) :: (221, 7, 3) :: L12).all (fun e => !(Nat.beq a e.1)) = true) (k : Nat) : X12.1 a k = 0 := by
  rw [X12_i]
  refine lk_z (fun e he q => ?_)
  have := List.all_eq_true.mp h e he
  rw [q.1] at this
  simp at this
theorem X12_bz {n b : Nat} (h : ∀ i, i < n → ((220, 7, (3 : Int32)) :: (221, 7, 3) :: L12).all (fun e => !(Nat.beq (b + i) e.1)) = true) : bB n X12 b = fun _ _ => 0 := by
  funext j k
  unfold bB
  by_cases c : j < n
  · rw [if_pos c]; exact X12_z (h j c) k
  · rw [if_neg c]
theorem X12_bP {p : Nat} (h : ∀ i, i < 21 → ¬ i = 1 → ((220, 7, (3 : Int32)) :: (221, 7, 3) :: L12).all (fun e => !(Nat.beq (p + i) e.1)) = true) (h1 : ∀ k, X12.1 (p + 1) k = if k = 7 then 3 else 0) : bP X12 p = F0' := by
  funext j k
  show (if j < 21 then X12.1 (p + j) k else 0) = if j = 1 ∧ k = 7 then 3 else 0
  by_cases c : j = 1
  · subst c
    rw [if_pos (by decide), h1]
    by_cases d : k = 7
    · rw [if_pos d, if_pos ⟨rfl, d⟩]
    · rw [if_neg d, if_neg (fun q => d q.2)]
  · rw [if_neg (show ¬ (j = 1 ∧ k = 7) from fun q => c q.1)]
    by_cases d : j < 21
    · rw [if_pos d]; exact X12_z (h j d c) k
    · rw [if_neg d]
theorem bt_00 : ∀ i, i < 32 → bt 0 i = false := by decide +kernel
theorem lowB_00 (n : Nat) : lowB 0 n := fun i _ h => bt_00 i h
theorem F0_ct {k : Nat} (h : ¬ k = 7) : ct F0' k = 0 := by
  show (if 1 = 1 ∧ k = 7 then (3 : Int32) else 0).toNatClampNeg = 0
  rw [if_neg (fun q => h q.2)]
  rfl
theorem F0_v {k : Nat} (h : ¬ k = 7) {i : Nat} {p : Prop} (hi : i < ct F0' k) : p := by
  rw [F0_ct h] at hi
  omega
theorem F0_wfL : wfL F0' := by
  refine ⟨?_, ⟨0, rfl, by decide⟩, ⟨3, rfl, by decide, by decide⟩, fun k hk => F0_v (by decide) hk, fun k hk => F0_v (by decide) hk, fun k hk => F0_v (by decide) hk, fun k hk => F0_v (by decide) hk, fun k hk => F0_v (by decide) hk, fun k _ hk => F0_v (by decide) hk, fun k hk => F0_v (by decide) hk⟩
  unfold okP
  refine ⟨⟨?_, ?_⟩, ⟨?_, ?_⟩, ⟨?_, ?_⟩, ⟨?_, ?_⟩, ⟨?_, ?_⟩, ⟨?_, ?_⟩⟩ <;> decide +kernel
theorem F0_wfN : wfN F0' (fun _ _ => 0) := ⟨⟨lowB_00 _, lowB_00 _, lowB_00 _, fun i hi q => by rw [bt_00 i hi] at q; exact absurd q.1 (by decide), lowB_00 _, lowB_00 _⟩, fun k hk => F0_v (by decide) hk, fun k hk => F0_v (by decide) hk⟩
set_option maxRecDepth 100000 in
theorem Inv_12 : Inv X12 := by
  have hP : bP X12 4 = F0' := X12_bP (by decide +kernel) (fun k => by
    rw [X12_i]
    show (if 5 = 220 ∧ k = 7 then (3 : Int32) else if 5 = 221 ∧ k = 7 then 3 else if 5 = 0 ∧ k = 14 then -1 else if 5 = 1 ∧ k = 8 then -1 else if 5 = 5 ∧ k = 7 then 3 else lkI _ 5 k) = _
    rw [if_neg (by omega), if_neg (by omega), if_neg (by omega), if_neg (by omega)]
    by_cases d : k = 7
    · rw [if_pos ⟨rfl, d⟩, if_pos d]
    · rw [if_neg (fun q => d q.2), if_neg d]; rfl)
  have hV : bV X12 47 = fun _ _ => 0 := X12_bz (by decide +kernel)
  have hQ : bQ X12 130 = fun _ _ => 0 := X12_bz (by decide +kernel)
  have hS : X12.1 220 = fun k => if k = 7 then 3 else 0 := by
    funext k
    rw [X12_i]
    show (if 220 = 220 ∧ k = 7 then (3 : Int32) else if 220 = 221 ∧ k = 7 then 3 else lkI L12 220 k) = _
    by_cases d : k = 7
    · rw [if_pos ⟨rfl, d⟩, if_pos d]
    · rw [if_neg (fun q => d q.2), if_neg d, if_neg (fun q => d q.2)]; rfl
  have v : ∀ a k x, lkI ((220, 7, 3) :: (221, 7, 3) :: L12) a k = x → X12.1 a k = x := fun a k x h => (X12_i a k).trans h
  refine ⟨⟨0, by decide, v _ _ _ rfl, v _ _ _ rfl, fun k hk => absurd hk (Nat.not_lt_zero _)⟩, fun k hk => ?_, ?_, ?_, ⟨⟨?_, Or.inl (v _ _ _ rfl)⟩, ⟨?_, Or.inl (v _ _ _ rfl)⟩⟩, ⟨?_, Or.inl (v _ _ _ rfl)⟩, ⟨Or.inl ⟨v _ _ _ rfl, v _ _ _ rfl⟩, Or.inl ⟨v _ _ _ rfl, v _ _ _ rfl⟩⟩, ⟨Or.inl ⟨v _ _ _ rfl, v _ _ _ rfl⟩, Or.inl ⟨v _ _ _ rfl, v _ _ _ rfl⟩⟩, ⟨0, by decide, v _ _ _ rfl, v _ _ _ rfl, fun k hk => absurd hk (Nat.not_lt_zero _)⟩, ⟨?_, ?_⟩⟩
  · have e : X12.2 = (wXe W12).2 := cpS_r X12a 226
    have e1 : ∀ b, X12.2.1 b k = W12.2.1 b k := fun b => by rw [e]; rfl
    rw [e1, e1, W12_j, W12_j]
    refine ⟨cwA_k k hk, ?_⟩
    have : ∀ k, k < 32 → lkJ (([] ++ shI 0 LJ_X11_init) ++ shI 218 LJ_X12_init) 224 k = c8 (kwds.getD (kord.getD k 0) []) := by decide +kernel
    exact this k hk
  · unfold I_w
    rw [hP, hV, hQ, hS]
    refine ⟨F0_wfL, fun r hr => F0_v (by decide) hr, ⟨?_, fun k hk => F0_v (by decide) hk, fun k hk => F0_v (by decide) hk, fun k hk => F0_v (by decide) hk, fun k hk => F0_v (by decide) hk, fun k hk => F0_v (by decide) hk, fun k hk => F0_v (by decide) hk⟩, ⟨fun k hk => F0_v (by decide) hk, fun k hk => F0_v (by decide) hk, fun k hk => F0_v (by decide) hk, fun k hk => F0_v (by decide) hk, fun k hk => F0_v (by decide) hk⟩, F0_wfN, ⟨⟨rfl, rfl, rfl, rfl, fun k hk => F0_v (by decide) hk, fun k hk => F0_v (by decide) hk, fun k hk => F0_v (by decide) hk⟩, rfl⟩, ⟨0, rfl, by decide, fun k hk => F0_v (by decide) hk⟩, Or.inl ⟨rfl, rfl⟩⟩
    decide +kernel
  · refine ⟨0, by decide, v _ _ _ rfl, v _ _ _ rfl, ?_, ?_, fun i hi => absurd hi (Nat.not_lt_zero _)⟩
    · intro k hk
      have e : X12.2 = (wXe W12).2 := cpS_r X12a 226
      rw [e]; exact hk
    · intro i j _ _ h
      have e : X12.2 = (wXe W12).2 := cpS_r X12a 226
      rw [e] at h; exact h
  · exact (v _ _ _ rfl).trans (v _ _ _ rfl).symm
  · exact (v _ _ _ rfl).trans (v _ _ _ rfl).symm
  · exact (v _ _ _ rfl).trans (v _ _ _ rfl).symm
  · exact (v _ _ _ rfl).trans (v _ _ _ rfl).symm
  · rw [v 218 28 0 rfl, if_pos rfl]; exact v _ _ _ rfl
