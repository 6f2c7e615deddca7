/-! the reference's copies of what is so -/
def setR (X : X_) (a : Nat) (f : Nat → Int32) : X_ := (fun b => if b = a then f else X.1 b, X.2)
section HI
variable {P V : m_V} {X : X_} {S : Nat → Int32}
theorem rowS_setR : rowS X S = setR X 220 S := rfl
theorem setR_eq {a : Nat} {f : Nat → Int32} : (setR X a f).1 a = f := by simp [setR]
theorem setR_ne {a b : Nat} {f : Nat → Int32} (h : ¬ b = a) : (setR X a f).1 b = X.1 b := if_neg h
theorem setR_self {a : Nat} {f : Nat → Int32} (h : X.1 a = f) : setR X a f = X := by
  refine Prod.ext (funext fun b => ?_) rfl
  by_cases c : b = a
  · subst c; simp [setR, h]
  · exact if_neg c
theorem setR_s {a k : Nat} {f : Nat → Int32} {v : Int32} : sI (setR X a f) a k v = setR X a (upS f k v) := by
  refine Prod.ext (funext fun b => funext fun j => ?_) rfl
  by_cases c : b = a
  · subst c
    by_cases c2 : j = k <;> simp [sI, setR, upS, c2]
  · simp [sI, setR, c]
theorem setR_s' {a b k : Nat} {f : Nat → Int32} {v : Int32} (h : ¬ b = a) : sI (setR X a f) b k v = setR (sI X b k v) a f := by
  refine Prod.ext (funext fun c => funext fun j => ?_) rfl
  by_cases c1 : c = a
  · subst c1
    have : ¬ c = b := fun e => h e.symm
    simp [sI, setR, this]
  · simp [sI, setR, c1]
theorem setR_setR {a : Nat} {f g : Nat → Int32} : setR (setR X a f) a g = setR X a g := by
  refine Prod.ext (funext fun b => ?_) rfl
  by_cases c : b = a <;> simp [setR, c]
theorem setR_comm {a b : Nat} {f g : Nat → Int32} (h : ¬ a = b) : setR (setR X a f) b g = setR (setR X b g) a f := by
  refine Prod.ext (funext fun c => ?_) rfl
  by_cases c1 : c = a
  · subst c1; simp [setR, h]
  · by_cases c2 : c = b
    · subst c2; simp [setR, c1]
    · simp [setR, c1, c2]
/-- the places from d on, below d + n, out of g; the rest as it was -/
def cpN (d n : Nat) (g f : Nat → Int32) : Nat → Int32 := fun j => if d ≤ j ∧ j < d + n then g (j - d) else f j
theorem cpN_0 {d : Nat} {g f : Nat → Int32} : cpN d 0 g f = f := by
  funext j
  have : ¬ (d ≤ j ∧ j < d + 0) := by omega
  exact if_neg this
theorem cpN_s {d n : Nat} {g f : Nat → Int32} : upS (cpN d n g f) (d + n) (g n) = cpN d (n + 1) g f := by
  funext j
  by_cases c : j = d + n
  · subst c
    rw [upS_eq]
    have h1 : d ≤ d + n ∧ d + n < d + (n + 1) := by omega
    simp [cpN, h1]
  · rw [upS_ne c]
    unfold cpN
    by_cases c2 : d ≤ j ∧ j < d + n
    · rw [if_pos c2, if_pos (by omega)]
    · rw [if_neg c2, if_neg (by omega)]
theorem cpN_in {d n j : Nat} {g f : Nat → Int32} (h : j < n) : cpN d n g f (d + j) = g j := by
  unfold cpN
  rw [if_pos (by omega), Nat.add_sub_cancel_left]
theorem cpN_out {d n j : Nat} {g f : Nat → Int32} (h : j < d ∨ d + n ≤ j) : cpN d n g f j = f j := if_neg (by omega)
theorem e_tries : fX12_tries X = some ((), setR X 226 (cpN 0 62 (fun i => X.1 220 (226 + i)) (X.1 226))) := by
  have h0 : (fun i => setR X 226 (cpN 0 i (fun i => X.1 220 (226 + i)) (X.1 226))) 0 = X := by
    show setR X 226 (cpN 0 0 _ _) = X
    rw [cpN_0, setR_self rfl]
  unfold fX12_tries
  conv => lhs; rw [← h0]
  refine lz1_X (n := 62) (fun i => setR X 226 (cpN 0 i (fun i => X.1 220 (226 + i)) (X.1 226))) (by decide) (fun i L hi => ?_) (fun L => ?_)
  · rw [it_e, if_neg (nL_ge hi (by decide)), ix_la, rA_n (by omega) (by decide), wA_n hi (by decide), setR_ne (by decide), setR_s, nI_1]
    have := cpN_s (d := 0) (n := i) (g := fun i => X.1 220 (226 + i)) (f := X.1 226)
    rw [Nat.zero_add] at this
    rw [this]
  · rw [it_e, if_pos (nL_le (by decide))]
    rfl
theorem e_brings : fX12_brings X = some ((), rowS X (cpN 226 62 (X.1 226) (X.1 220))) := by
  have h0 : (fun i => setR X 220 (cpN 226 i (X.1 226) (X.1 220))) 0 = X := by
    show setR X 220 (cpN 226 0 _ _) = X
    rw [cpN_0, setR_self rfl]
  unfold fX12_brings
  conv => lhs; rw [← h0]
  refine lz1_X (n := 62) (fun i => setR X 220 (cpN 226 i (X.1 226) (X.1 220))) (by decide) (fun i L hi => ?_) (fun L => ?_)
  · rw [it_e, if_neg (nL_ge hi (by decide)), rA_n hi (by decide), setR_ne (by decide), ix_la, wA_n (by omega) (by decide), setR_s, nI_1, cpN_s]
  · rw [it_e, if_pos (nL_le (by decide))]
    rfl
/-- what was kept is brought back -/
theorem RS.cp {g f : Nat → Int32} (w : okP P) (h : RS P V (fun k => g (k - 226))) : RS P V (cpN 226 62 g f) := by
  have h0 := w.c0.2
  have h4 := w.c4.2
  have h6 := w.c6.2
  have e : ∀ j, 226 ≤ j → j < 288 → cpN 226 62 g f j = g (j - 226) := fun j h1 h2 => if_pos (by omega)
  refine ⟨?_, ?_, ?_, ?_, fun k hk => ?_, fun q hq => ?_, fun u hu => ?_⟩
  · rw [e _ (by omega) (by omega)]; exact h.tick
  · rw [e _ (by omega) (by omega)]; exact h.met
  · rw [e _ (by omega) (by omega)]; exact h.rev
  · rw [e _ (by omega) (by omega)]; exact h.cr
  · rw [e _ (by omega) (by omega)]; exact h.fl hk
  · rw [e _ (by omega) (by omega), e _ (by omega) (by omega), e _ (by omega) (by omega)]; exact h.r q hq
  · rw [e _ (by omega) (by omega), e _ (by omega) (by omega), e _ (by omega) (by omega)]; exact h.t u hu
theorem RW.cp {g f : Nat → Int32} (w : okP P) (h : RW P V (fun k => g (k - 226))) : RW P V (cpN 226 62 g f) := ⟨h.1.cp w, by rw [cpN, if_pos (by omega)]; exact h.2⟩
theorem RS.same {S' : Nat → Int32} (w : okP P) (h : RS P V S) (e : ∀ j, 226 ≤ j → j < 288 → S' j = S j) : RS P V S' := by
  have h0 := w.c0.2
  have h4 := w.c4.2
  have h6 := w.c6.2
  refine ⟨?_, ?_, ?_, ?_, fun k hk => ?_, fun q hq => ?_, fun u hu => ?_⟩
  · rw [e _ (by omega) (by omega)]; exact h.tick
  · rw [e _ (by omega) (by omega)]; exact h.met
  · rw [e _ (by omega) (by omega)]; exact h.rev
  · rw [e _ (by omega) (by omega)]; exact h.cr
  · rw [e _ (by omega) (by omega)]; exact h.fl hk
  · rw [e _ (by omega) (by omega), e _ (by omega) (by omega), e _ (by omega) (by omega)]; exact h.r q hq
  · rw [e _ (by omega) (by omega), e _ (by omega) (by omega), e _ (by omega) (by omega)]; exact h.t u hu
theorem RW.same {S' : Nat → Int32} (w : okP P) (h : RW P V S) (e : ∀ j, 226 ≤ j → j < 288 → S' j = S j) : RW P V S' := ⟨h.1.same w e, by rw [e _ (by omega) (by omega)]; exact h.2⟩
/-- the row of what can be undone, one more -/
def undR (u : Nat) (U : Nat → Int32) (S : Nat → Int32) : Nat → Int32 := if u = 8 then cpN 434 62 (fun i => S (226 + i)) (cpN 0 434 (fun i => U (i + 62)) U) else cpN (62 * u) 62 (fun i => S (226 + i)) U
theorem e_storesL {u : Nat} (hu : u < 8) (h23 : X.1 218 23 = nI u) : (lz1 (fun L47 x2 => (it (62 ≤ x2) (gI 218 23 fun v3 => (pI 218 23 (v3 + 1) (re ()))) (gI 218 23 fun v4 => (rA 220 469 (226 + x2) fun v5 => (wA 225 496 ((62 * v4) + x2) v5 (L47 (x2 + 1))))))) FU 0) X = some ((), sI (setR X 225 (cpN (62 * u) 62 (fun i => X.1 220 (226 + i)) (X.1 225))) 218 23 (nI (u + 1))) := by
  have h0 : (fun i => setR X 225 (cpN (62 * u) i (fun i => X.1 220 (226 + i)) (X.1 225))) 0 = X := by
    show setR X 225 (cpN (62 * u) 0 _ _) = X
    rw [cpN_0, setR_self rfl]
  conv => lhs; rw [← h0]
  refine lz1_X (n := 62) (fun i => setR X 225 (cpN (62 * u) i (fun i => X.1 220 (226 + i)) (X.1 225))) (by decide) (fun i L hi => ?_) (fun L => ?_)
  · rw [it_e, if_neg (nL_ge hi (by decide)), gI_e, setR_ne (by decide), h23, ix_la, rA_n (by omega) (by decide), setR_ne (by decide), ix_lm, nI_add, wA_n (by omega) (by decide), setR_s, nI_1, cpN_s]
  · rw [it_e, if_pos (nL_le (by decide)), gI_e, setR_ne (by decide), h23, pI_e, nI_1]
    rfl
theorem e_stores {u : Nat} (hu : u ≤ 8) (h23 : X.1 218 23 = nI u) : fX12_stores X = some ((), sI (setR X 225 (undR u (X.1 225) (X.1 220))) 218 23 (nI (if u = 8 then 8 else u + 1))) := by
  unfold fX12_stores undR
  rw [gI_e, jo0_e, it_e, h23]
  by_cases c : u = 8
  · subst c
    rw [if_pos (show nI 8 = 8 from rfl), if_pos rfl, if_pos rfl]
    have h0 : (fun i => setR X 225 (cpN 0 i (fun i => X.1 225 (i + 62)) (X.1 225))) 0 = X := by
      show setR X 225 (cpN 0 0 _ _) = X
      rw [cpN_0, setR_self rfl]
    conv => lhs; rw [← h0]
    refine lz1_X (n := 434) (fun i => setR X 225 (cpN 0 i (fun i => X.1 225 (i + 62)) (X.1 225))) (by decide) (fun i L hi => ?_) (fun L => ?_)
    · rw [it_e, if_neg (nL_ge hi (by decide)), ix_al, rA_n (by omega) (by decide), wA_n (by omega) (by decide), setR_eq, setR_s, nI_1, cpN_out (by omega)]
      have := cpN_s (d := 0) (n := i) (g := fun i => X.1 225 (i + 62)) (f := X.1 225)
      rw [Nat.zero_add] at this
      rw [this]
    · rw [it_e, if_pos (nL_le (by decide)), pI_e, setR_s' (by decide)]
      have h := e_storesL (X := setR (sI X 218 23 7) 225 (cpN 0 434 (fun i => X.1 225 (i + 62)) (X.1 225))) (u := 7) (by decide) (by rw [setR_ne (by decide), sI_i, if_pos ⟨rfl, rfl⟩]; rfl)
      rw [h, setR_eq, setR_setR, setR_s' (by decide), setR_s' (by decide), sI_sI]
      rfl
  · rw [if_neg (show ¬ nI u = 8 from fun e => c ((nI_eq (b := 8) (by omega) (by decide)).mp e)), if_neg c, if_neg c]
    exact e_storesL (by omega) h23
end HI
