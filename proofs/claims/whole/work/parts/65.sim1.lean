/-! the readers, both -/
section S1
variable {X : X_}
theorem idx_of {a : Int32} {n : Nat} (hn : n < 2 ^ 31) (h : 0 ≤ a ∧ a < nI n) : ∃ k, k < n ∧ a = nI k := by
  have h0 : ¬ a < 0 := by
    intro c
    have h1 := h.1
    rw [i32_le] at h1
    rw [i32_lt] at c
    omega
  obtain ⟨k, hk, rfl⟩ := nI_of h0
  exact ⟨k, (nI_ltI hk hn).mp h.2, rfl⟩
theorem idx_nI {k n : Nat} (hk : k < n) (hn : n < 2 ^ 31) : 0 ≤ nI k ∧ nI k < nI n := ⟨nI_pos' (by omega), nI_lt hk hn⟩
theorem k_has {p s : Nat} {a : Int32} (hs : (OfNat.ofNat s : Nat) < 8) : fX5_has p (OfNat.ofNat s) a X = some (b2 (decide (0 ≤ a ∧ a < bP X p 1 (OfNat.ofNat s))), X) := by
  have e : (OfNat.ofNat s : Int32).toNatClampNeg = OfNat.ofNat s := nI_clamp (show (OfNat.ofNat s : Nat) < 2 ^ 31 by omega)
  unfold fX5_has
  rw [gd_t (by rw [e]; exact ⟨rfl, hs⟩), e]
theorem P_at {p j k : Nat} (hj : j < 21) : X.1 (p + j) k = bP X p j k := (if_pos hj).symm
theorem V_at {p j k : Nat} (hj : j < 7) : X.1 (p + j) k = bV X p j k := (if_pos hj).symm
theorem V_0 {p k : Nat} : X.1 p k = bV X p 0 k := rfl
/-- a place of a plan's row, a state's row -/
theorem k_P {α : Type} {p j k n : Nat} {F : Int32 → RM α} (hk : k < n) (hn : n < 2 ^ 31) (hj : j < 21) : rA (p + j) n (nI k) F X = F (bP X p j k) X := by rw [rA_n hk hn, P_at hj]
theorem k_V {α : Type} {p j k n : Nat} {F : Int32 → RM α} (hk : k < n) (hn : n < 2 ^ 31) (hj : j < 7) : rA (p + j) n (nI k) F X = F (bV X p j k) X := by rw [rA_n hk hn, V_at hj]
theorem k_Pl {α : Type} {p j k n : Nat} {F : Int32 → RM α} (hk : (OfNat.ofNat k : Nat) < n) (hn : n < 2 ^ 31) (hj : j < 21) : rA (p + j) n (OfNat.ofNat k) F X = F (bP X p j (OfNat.ofNat k)) X := k_P hk hn hj
theorem t_P {v : Int32} : bP (sI X 218 0 v) 4 = bP X 4 := bB_same (fun a _ h2 => sI_row (by omega))
theorem t_220 {v : Int32} : (sI X 218 0 v).1 220 = X.1 220 := sI_row (by decide)
theorem b2_tri {b : Bool} {α : Type} {A B : α} : (if b2 b = 0 then A else B) = if b = true then B else A := by cases b <;> rfl
theorem sim_fault : Sim fX11_fault fX12_fault := fun X hX => by
  refine ⟨X.1 0 13, X, sI X 218 0 0, rfl, ?_, hX.thrown⟩
  show some ((sI X 218 0 0).1 218 15, _) = _
  rw [sI_i, if_neg (by decide), hX.o.1]
theorem sim_those : Sim fX11_those fX12_those := fun X hX => by
  refine ⟨X.1 0 14, X, sI X 218 0 0, rfl, ?_, hX.thrown⟩
  unfold fX12_those
  rw [pI_e, gI_e, sI_ne (by decide), it_e, gI_e, sI_ne (by decide), hX.o.2]
  by_cases c : X.1 218 28 = 0
  · rw [if_pos c, if_pos c]; rfl
  · rw [if_neg c, if_neg c]; rfl
theorem sim_count (a : Int32) : Sim (fX11_count a) (fX12_count a) := by
  refine sim_rd (fun X hX => ?_)
  have w := hX.w
  obtain ⟨n, hn, e1, e2, -⟩ := hX.t
  refine ⟨if a = 8 then X.1 1 1 else if 0 ≤ a ∧ a < 8 then bP X 4 1 a.toNatClampNeg else -1, ?_, ?_⟩
  · unfold fX11_count
    rw [it_e]
    by_cases c : a = 8
    · rw [if_pos c, if_pos c]; rfl
    · rw [if_neg c, if_neg c, it_e]
      by_cases c1 : a < 0
      · rw [if_pos c1, if_neg (fun e => by have := e.1; rw [i32_le] at this; rw [i32_lt] at c1; omega)]; rfl
      · rw [if_neg c1, it_e]
        have c1' : 0 ≤ a := by rw [i32_le]; rw [i32_lt] at c1; omega
        by_cases c2 : (8 : Int32) ≤ a
        · rw [if_pos c2, if_neg (fun e => by have := e.2; rw [i32_lt] at this; rw [i32_le] at c2; omega)]; rfl
        · have c3 : a < 8 := by rw [i32_lt]; rw [i32_le] at c2; omega
          obtain ⟨k, hk, rfl⟩ := idx_of (n := 8) (by decide) ⟨c1', c3⟩
          rw [if_neg c2, if_pos ⟨c1', c3⟩, k_P hk (by decide) (by decide), nI_clamp (by omega)]
          rfl
  · rw [it_e, gI_e, sI_ne (by decide), e1, e2]
    by_cases c : a = 8
    · rw [if_pos c, if_pos c]; rfl
    · rw [if_neg c, if_neg c, ca_s (e_isIn _ _ _), it_e, b2_tri]
      by_cases c1 : 0 ≤ a ∧ a < 8
      · obtain ⟨k, hk, rfl⟩ := idx_of (n := 8) (by decide) c1
        rw [if_pos (decide_eq_true ⟨c1.1, nI_le (b := 7) (by omega) (by decide)⟩), if_pos c1, rA_n (by omega) (by decide), sI_row (by decide), w.r.1 k hk, nI_clamp (by omega)]
        rfl
      · rw [if_neg (fun e => c1 ?_), if_neg c1]
        · rfl
        · have := of_decide_eq_true e
          refine ⟨this.1, ?_⟩
          have h2 := this.2
          rw [i32_le] at h2
          rw [i32_lt]
          have e7 : (7 : Int32).toInt = 7 := rfl
          have e8 : (8 : Int32).toInt = 8 := rfl
          omega
end S1
