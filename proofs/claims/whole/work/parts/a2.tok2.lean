/-! a token, in both: what is read -/
section TP
def clt (u : List Nat) : Nat := u.countP ltr
def cdg (u : List Nat) : Nat := u.countP dgt
def sLt (u : List Nat) : Int64 := u.foldl (fun a c => if ltr c = true then a * 32 + (nI c - 97 + 1).toInt64 else a) 0
def sVb (u : List Nat) : Int32 := u.foldl (fun a c => if ltr c = true then a else a * 10 + (nI c - 48)) 0
theorem sL_app {u : List Nat} {c : Nat} : sLt (u ++ [c]) = if ltr c = true then sLt u * 32 + (nI c - 97 + 1).toInt64 else sLt u := by unfold sLt; rw [List.foldl_append]; rfl
theorem sV_app {u : List Nat} {c : Nat} : sVb (u ++ [c]) = if ltr c = true then sVb u else sVb u * 10 + (nI c - 48) := by unfold sVb; rw [List.foldl_append]; rfl
theorem cl_app {u : List Nat} {c : Nat} : clt (u ++ [c]) = clt u + if ltr c = true then 1 else 0 := by unfold clt; rw [List.countP_append]; simp [List.countP_cons]
theorem cd_app {u : List Nat} {c : Nat} : cdg (u ++ [c]) = cdg u + if dgt c = true then 1 else 0 := by unfold cdg; rw [List.countP_append]; simp [List.countP_cons]
theorem t_run_rn {b : Nat → Int32} {B : Nat → Nat} : ∀ m r u, (∀ k, r ≤ k → k < r + m → b k = nI (B k) ∧ B k < 256) → t_run b m r (nI (clt u)) (nI (cdg u)) (sLt u) (sVb u) = (r + (rnl B m r).length, nI (clt (u ++ rnl B m r)), nI (cdg (u ++ rnl B m r)), sLt (u ++ rnl B m r), sVb (u ++ rnl B m r)) := by
  intro m
  induction m with
  | zero => intro r u _; rw [rnl, List.append_nil]; rfl
  | succ m ih =>
    intro r u h
    obtain ⟨hb, hc⟩ := h r (Nat.le_refl _) (by omega)
    obtain ⟨c1, c2, -, c4⟩ := ch_all _ hc
    rw [t_run, hb, c1, c2, rnl]
    have st := ih (r + 1) (u ++ [B r]) (fun k h1 h2 => h k (by omega) (by omega))
    have e : ∀ l : List Nat, u ++ B r :: l = (u ++ [B r]) ++ l := fun l => by simp
    cases q1 : ltr (B r)
    · cases q2 : dgt (B r)
      · rw [if_neg (by decide), if_neg (by decide), if_neg (by decide), List.append_nil]; rfl
      · rw [if_neg (by decide), if_pos rfl, if_pos (show (false || true) = true from rfl), e, List.length_cons]
        rw [cl_app, cd_app, sL_app, sV_app, q1, q2, if_neg (by decide), if_pos rfl, if_neg (by decide), if_neg (by decide), ← nI_1] at st
        simp only [Nat.add_zero] at st
        rw [st, show r + 1 + (rnl B m (r + 1)).length = r + ((rnl B m (r + 1)).length + 1) by omega]
    · have q2 : dgt (B r) = false := by
        cases z : dgt (B r)
        · rfl
        · exact absurd ⟨q1, z⟩ c4
      rw [if_pos rfl, q2, if_pos (by rfl), e, List.length_cons]
      rw [cl_app, cd_app, sL_app, sV_app, q1, q2, if_pos rfl, if_neg (by decide), if_pos rfl, if_pos rfl, ← nI_1] at st
      simp only [Nat.add_zero] at st
      rw [st, show r + 1 + (rnl B m (r + 1)).length = r + ((rnl B m (r + 1)).length + 1) by omega]
theorem rn_all {B : Nat → Nat} : ∀ m r, (∀ k, r ≤ k → k < r + m → B k < 256) → (rnl B m r).length ≤ m ∧ ∀ c ∈ rnl B m r, c < 256 ∧ (ltr c || dgt c) = true := by
  intro m
  induction m with
  | zero => intro r _; exact ⟨Nat.le_refl _, fun c hc => absurd hc (List.not_mem_nil)⟩
  | succ m ih =>
    intro r h
    rw [rnl]
    by_cases q : (ltr (B r) || dgt (B r)) = true
    · rw [if_pos q]
      obtain ⟨i1, i2⟩ := ih (r + 1) (fun k h1 h2 => h k (by omega) (by omega))
      refine ⟨by rw [List.length_cons]; omega, fun c hc => ?_⟩
      rcases List.mem_cons.mp hc with rfl | hc
      · exact ⟨h r (Nat.le_refl _) (by omega), q⟩
      · exact i2 c hc
    · rw [if_neg q]
      exact ⟨Nat.zero_le _, fun c hc => absurd hc (List.not_mem_nil)⟩
theorem cnt_all : ∀ u : List Nat, (∀ c ∈ u, c < 256 ∧ (ltr c || dgt c) = true) → clt u + cdg u = u.length ∧ (aS true u = true ↔ cdg u = 0) ∧ (aS false u = true ↔ clt u = 0) := by
  intro u
  induction u with
  | nil => intro _; exact ⟨rfl, ⟨fun _ => rfl, fun _ => rfl⟩, ⟨fun _ => rfl, fun _ => rfl⟩⟩
  | cons c u ih =>
    intro h
    obtain ⟨i1, i2, i3⟩ := ih (fun d hd => h d (List.mem_cons_of_mem _ hd))
    obtain ⟨h1, h2⟩ := h c (List.mem_cons_self ..)
    have h4 := (ch_all c h1).2.2.2
    have a1 : ∀ s, aS s (c :: u) = ((ltr c == s) && aS s u) := fun s => rfl
    have a2 : clt (c :: u) = clt u + if ltr c = true then 1 else 0 := by unfold clt; rw [List.countP_cons]
    have a3 : cdg (c :: u) = cdg u + if dgt c = true then 1 else 0 := by unfold cdg; rw [List.countP_cons]
    rw [a1, a1, a2, a3, List.length_cons]
    cases q1 : ltr c
    · have q2 : dgt c = true := by rw [q1] at h2; exact h2
      rw [q2, if_neg (by decide), if_pos rfl]
      refine ⟨by omega, ⟨fun e => by simp at e, fun e => by omega⟩, ?_⟩
      rw [show (false == false) = true from rfl, Bool.true_and, Nat.add_zero]
      exact i3
    · have q2 : dgt c = false := by
        cases z : dgt c
        · rfl
        · exact absurd ⟨q1, z⟩ h4
      rw [q2, if_pos rfl, if_neg (by decide)]
      refine ⟨by omega, ?_, ⟨fun e => by simp at e, fun e => by omega⟩⟩
      rw [show (true == true) = true from rfl, Bool.true_and, Nat.add_zero]
      exact i2
theorem sL_wd : ∀ (u : List Nat) (a : Nat), (∀ c ∈ u, 97 ≤ c ∧ c ≤ 122) → u.foldl (fun a c => if ltr c = true then a * 32 + (nI c - 97 + 1).toInt64 else a) (lN a) = lN (fg 32 0 a (u.map (· - 96))) := by
  intro u
  induction u with
  | nil => intro a _; rfl
  | cons c u ih =>
    intro a h
    have hc := h c (List.mem_cons_self ..)
    rw [List.foldl_cons, List.map_cons, fg_cons, ← ih _ (fun d hd => h d (List.mem_cons_of_mem _ hd)), if_pos (show ltr c = true from decide_eq_true hc)]
    have e1 : nI c - 97 + 1 = nI (c - 96) := by
      rw [show nI c - 97 = nI (c - 97) from ix_sub (c := 97) hc.1, nI_1, show c - 97 + 1 = c - 96 by omega]
    rw [e1, nI_l (by omega), show lN a * 32 = lN (a * 32) from lN_mul a 32, lN_add, Nat.zero_add]
theorem sW_wd : ∀ (u : List Nat) (a k : Nat), a < 256 ^ k → k + u.length ≤ 7 → (∀ c ∈ u, 97 ≤ c ∧ c ≤ 122) → u.foldl (fun a c => (a <<< ((8 : Int32).toInt64 &&& 63)) ||| (nI c).toInt64) (lN a) = lN (fg 256 96 a (u.map (· - 96))) := by
  intro u
  induction u with
  | nil => intro a k _ _ _; rfl
  | cons c u ih =>
    intro a k ha hk h
    have hc := h c (List.mem_cons_self ..)
    rw [List.length_cons] at hk
    have a1 : a * 256 + c < 256 ^ (k + 1) := by
      rw [Nat.pow_succ]
      have : (a + 1) * 256 ≤ 256 ^ k * 256 := Nat.mul_le_mul_right _ ha
      omega
    have a2 : 256 ^ (k + 1) ≤ 256 ^ 7 := Nat.pow_le_pow_right (by decide) (by omega)
    have a4 : a * 256 + c < 18446744073709551616 := Nat.lt_of_lt_of_le a1 (Nat.le_trans a2 (by decide))
    have a5 : a * 2 ^ 8 < 2 ^ 64 := Nat.lt_of_le_of_lt (Nat.le_add_right (a * 256) c) a4
    have e : (lN a <<< ((8 : Int32).toInt64 &&& 63)) ||| (nI c).toInt64 = lN (a * 256 + c) := by
      rw [show lN a <<< ((8 : Int32).toInt64 &&& 63) = lN (a * 2 ^ 8) from wb_shl a (k := 8) (by decide), nI_l (by omega), wb_or a5 (Nat.lt_of_le_of_lt (Nat.le_add_left c (a * 256)) a4), show a * 2 ^ 8 ||| c = a * 256 + c by
        rw [← Nat.shiftLeft_eq, ← Nat.shiftLeft_add_eq_or_of_lt (show c < 2 ^ 8 by omega), Nat.shiftLeft_eq]]
    rw [List.foldl_cons, List.map_cons, fg_cons, e, ih (a * 256 + c) (k + 1) a1 (by omega) (fun d hd => h d (List.mem_cons_of_mem _ hd)), show 96 + (c - 96) = c by omega]
theorem sV_nb : ∀ (u : List Nat) (a : Nat), (∀ c ∈ u, 48 ≤ c ∧ c ≤ 57) → u.foldl (fun a c => if ltr c = true then a else a * 10 + (nI c - 48)) (nI a) = nI (fg 10 0 a (u.map (· - 48))) ∧ u.foldl (fun a c => ((10 * a) + nI c) - 48) (nI a) = nI (fg 10 0 a (u.map (· - 48))) := by
  intro u
  induction u with
  | nil => intro a _; exact ⟨rfl, rfl⟩
  | cons c u ih =>
    intro a h
    have hc := h c (List.mem_cons_self ..)
    obtain ⟨i1, i2⟩ := ih (a * 10 + (0 + (c - 48))) (fun d hd => h d (List.mem_cons_of_mem _ hd))
    have hs : ltr c = false := decide_eq_false (by omega)
    rw [List.foldl_cons, List.foldl_cons, List.map_cons, fg_cons, hs, if_neg (by decide)]
    constructor
    · rw [← i1, show nI c - 48 = nI (c - 48) from ix_sub (c := 48) hc.1, show nI a * 10 = nI (a * 10) from ix_mm a 10, nI_add, Nat.zero_add]
    · rw [← i2, show (10 : Int32) * nI a = nI (10 * a) from ix_mm 10 a, nI_add, show nI (10 * a + c) - 48 = nI (10 * a + c - 48) from ix_sub (c := 48) (by omega), show 10 * a + c - 48 = a * 10 + (0 + (c - 48)) by omega]
/-- a word -/
theorem run_wd {u : List Nat} (h0 : 1 ≤ u.length) (h7 : u.length ≤ 7) (h : ∀ c ∈ u, 97 ≤ c ∧ c ≤ 122) : isWd (u.map (· - 96)) ∧ sLt u = c5 (u.map (· - 96)) ∧ sWd u = c8 (u.map (· - 96)) := by
  refine ⟨⟨by rw [List.length_map]; exact h0, by rw [List.length_map]; exact h7, fun d hd => ?_⟩, ?_, ?_⟩
  · obtain ⟨c, hc, rfl⟩ := List.mem_map.mp hd
    have := h c hc
    omega
  · rw [c5_fg]; exact sL_wd u 0 h
  · rw [c8_fg]
    unfold sWd
    rw [List.take_of_length_le h7]
    exact sW_wd u 0 0 (by decide) (by omega) h
theorem run_nb {u : List Nat} (h3 : u.length ≤ 3) (h : ∀ c ∈ u, 48 ≤ c ∧ c ≤ 57) : ∃ k, k ≤ 999 ∧ sVb u = nI k ∧ sNb u = nI k := by
  obtain ⟨e1, e2⟩ := sV_nb u 0 h
  refine ⟨fg 10 0 0 (u.map (· - 48)), ?_, e1, ?_⟩
  · have := fg_lt (B := 10) (o := 0) (n := 3) (w := u.map (· - 48)) (by decide) (by rw [List.length_map]; exact h3) (fun d hd => by
      obtain ⟨c, hc, rfl⟩ := List.mem_map.mp hd
      have := h c hc
      omega)
    omega
  · unfold sNb
    rw [List.take_of_length_le h3]
    exact e2
def sgn (c : Nat) : Prop := c = 59 ∨ c = 40 ∨ c = 41 ∨ c = 60 ∨ c = 61 ∨ c = 62
/-- the token that both have read -/
def TK (X Y : X_) : Prop := X.1 1 5 = Y.1 218 12 ∧ ((X.1 1 4 = 0 ∧ Y.1 218 11 = 0 ∧ X.1 1 8 = -1) ∨
  (∃ w, isWd w ∧ X.1 1 4 = 1 ∧ Y.1 218 11 = 1 ∧ X.2.1 1 7 = c5 w ∧ Y.2.1 218 17 = c8 w ∧ X.1 1 8 = kx w) ∨
  (∃ k, k ≤ 999 ∧ X.1 1 4 = 2 ∧ Y.1 218 11 = 2 ∧ X.1 1 6 = nI k ∧ Y.1 218 14 = nI k ∧ X.1 1 8 = -1) ∨
  (∃ c, sgn c ∧ X.1 1 4 = 3 ∧ Y.1 218 11 = 3 ∧ X.1 1 6 = nI c ∧ Y.1 218 14 = nI c ∧ X.1 1 8 = -1) ∨
  (Y.1 218 11 = 4 ∧ (X.1 1 4 = 4 ∨ X.1 1 4 = 3 ∧ ∃ c, c < 256 ∧ X.1 1 6 = nI c ∧ ¬ sgn c) ∧ X.1 1 8 = -1))
/-- the text that both read: n bytes, at most m, p of them behind -/
def TB (X Y : X_) (n m p : Nat) : Prop := n ≤ 1460 ∧ m ≤ 1460 ∧ p ≤ n ∧ (X.1 1 1 = nI n ∧ Y.1 218 3 = nI n) ∧ (X.1 1 2 = nI m ∧ Y.1 218 5 = nI m) ∧ (X.1 1 3 = nI p ∧ Y.1 218 4 = nI p) ∧ (∀ k, k < n → ∃ b, b < 256 ∧ X.1 2 k = nI b ∧ Y.1 219 k &&& 255 = nI b) ∧ ∀ k, k < 32 → X.2.1 3 k = c5 (kwds.getD k []) ∧ Y.2.1 224 k = c8 (kwds.getD (kord.getD k 0) [])
def cSx (X X' : X_) : Prop := (∀ a, ¬ a = 1 → X'.1 a = X.1 a) ∧ (∀ k, ¬ k = 3 → ¬ k = 4 → ¬ k = 5 → ¬ k = 6 → ¬ k = 8 → X'.1 1 k = X.1 1 k) ∧ (∀ a k, ¬ (a = 1 ∧ k = 7) → X'.2.1 a k = X.2.1 a k) ∧ X'.2.2 = X.2.2
theorem bkS_c {X : X_} {S : m_TX} (h1 : ∀ k, ¬ k = 3 → ¬ k = 4 → ¬ k = 5 → ¬ k = 6 → ¬ k = 8 → S.1 0 k = X.1 1 k) (h2 : S.1 1 = X.1 2) (h3 : S.1 2 = X.1 3) (h4 : ∀ k, ¬ k = 7 → S.2 0 k = X.2.1 1 k) (h5 : S.2 1 = X.2.1 2) (h6 : S.2 2 = X.2.1 3) : cSx X (bkS X S) := by
  have r1 : (bkS X S).1 1 = S.1 0 := bk_in0 (by decide)
  have r2 : (bkS X S).1 2 = S.1 1 := bk_in (b := 1) (j := 1) (by decide)
  have r3 : (bkS X S).1 3 = S.1 2 := bk_in (b := 1) (j := 2) (by decide)
  have l1 : (bkS X S).2.1 1 = S.2 0 := bk_inJ (b := 1) (j := 0) (by decide)
  have l2 : (bkS X S).2.1 2 = S.2 1 := bk_inJ (b := 1) (j := 1) (by decide)
  have l3 : (bkS X S).2.1 3 = S.2 2 := bk_inJ (b := 1) (j := 2) (by decide)
  refine ⟨fun a ha => ?_, fun k a b c d e => ?_, fun a k e => ?_, rfl⟩
  · by_cases c2 : a = 2
    · subst c2; rw [r2, h2]
    · by_cases c3 : a = 3
      · subst c3; rw [r3, h3]
      · exact bkS_row (by omega)
  · rw [r1]; exact h1 k a b c d e
  · by_cases c1 : a = 1
    · subst c1; rw [l1]; exact h4 k (fun z => e ⟨rfl, z⟩)
    · by_cases c2 : a = 2
      · subst c2; rw [l2, h5]
      · by_cases c3 : a = 3
        · subst c3; rw [l3, h6]
        · rw [bkS_rowJ (by omega)]
end TP
