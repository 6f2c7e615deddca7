/-! what the blocks hold -/
def lkI : List (Nat × Nat × Int32) → Nat → Nat → Int32
  | [], _, _ => 0
  | e :: L, b, k => if b = e.1 ∧ k = e.2.1 then e.2.2 else lkI L b k
def lkJ : List (Nat × (Nat → Int64)) → Nat → Nat → Int64
  | [], _, _ => 0
  | e :: L, b, k => if b = e.1 then e.2 k else lkJ L b k
def shI {α : Type} (i : Nat) (L : List (Nat × α)) : List (Nat × α) := L.map (fun e => (i + e.1, e.2))
def bel {α : Type} (L : List (Nat × α)) (n : Nat) : Bool := L.all (fun e => Nat.blt e.1 n)
def updJ (f : Nat → Int64) (k : Nat) (v : Int64) : Nat → Int64 := fun j => if j = k then v else f j
def ZI (B : m_H) (L : List (Nat × Nat × Int32)) : Prop := ∀ b k, B.1 b k = lkI L b k
def ZJ (B : m_H) (L : List (Nat × (Nat → Int64))) : Prop := ∀ b k, B.2.1 b k = lkJ L b k
theorem lkI_hi {n : Nat} : ∀ {L : List (Nat × Nat × Int32)}, bel L n = true → ∀ b k, n ≤ b → lkI L b k = 0 := by
  intro L
  induction L with
  | nil => intro _ b k _; rfl
  | cons e L ih =>
    intro h b k hb
    have h' : (Nat.blt e.1 n && bel L n) = true := h
    rw [Bool.and_eq_true] at h'
    have h1 : e.1 < n := Nat.lt_of_lt_of_le (Nat.lt_succ_self _) (Nat.le_of_ble_eq_true h'.1)
    show (if b = e.1 ∧ k = e.2.1 then e.2.2 else lkI L b k) = 0
    rw [if_neg (by omega)]
    exact ih h'.2 b k hb
theorem lkJ_hi {n : Nat} : ∀ {L : List (Nat × (Nat → Int64))}, bel L n = true → ∀ b k, n ≤ b → lkJ L b k = 0 := by
  intro L
  induction L with
  | nil => intro _ b k _; rfl
  | cons e L ih =>
    intro h b k hb
    have h' : (Nat.blt e.1 n && bel L n) = true := h
    rw [Bool.and_eq_true] at h'
    have h1 : e.1 < n := Nat.lt_of_lt_of_le (Nat.lt_succ_self _) (Nat.le_of_ble_eq_true h'.1)
    show (if b = e.1 then e.2 k else lkJ L b k) = 0
    rw [if_neg (by omega)]
    exact ih h'.2 b k hb
theorem lkI_ex {i : Nat} {L' : List (Nat × Nat × Int32)} : ∀ {L : List (Nat × Nat × Int32)}, bel L i = true → ∀ b k, lkI (L ++ shI i L') b k = if b < i then lkI L b k else lkI L' (b - i) k := by
  intro L
  induction L with
  | nil =>
    intro _ b k
    show lkI (shI i L') b k = _
    induction L' with
    | nil => show (0 : Int32) = if b < i then 0 else 0; rw [ite_self]
    | cons e L' ih =>
      show (if b = i + e.1 ∧ k = e.2.1 then e.2.2 else lkI (shI i L') b k) = if b < i then 0 else (if b - i = e.1 ∧ k = e.2.1 then e.2.2 else lkI L' (b - i) k)
      rw [ih]
      by_cases c : b < i
      · rw [if_pos c, if_pos c, if_neg (by omega)]; rfl
      · rw [if_neg c, if_neg c]
        by_cases d : b = i + e.1 ∧ k = e.2.1
        · rw [if_pos d, if_pos (by omega)]
        · rw [if_neg d, if_neg (by omega)]
  | cons e L ih =>
    intro h b k
    have h' : (Nat.blt e.1 i && bel L i) = true := h
    rw [Bool.and_eq_true] at h'
    have h1 : e.1 < i := Nat.lt_of_lt_of_le (Nat.lt_succ_self _) (Nat.le_of_ble_eq_true h'.1)
    show (if b = e.1 ∧ k = e.2.1 then e.2.2 else lkI (L ++ shI i L') b k) = if b < i then (if b = e.1 ∧ k = e.2.1 then e.2.2 else lkI L b k) else lkI L' (b - i) k
    rw [ih h'.2]
    by_cases c : b = e.1 ∧ k = e.2.1
    · rw [if_pos c, if_pos (by omega), if_pos c]
    · rw [if_neg c, if_neg c]
theorem lkJ_ex {i : Nat} {L' : List (Nat × (Nat → Int64))} : ∀ {L : List (Nat × (Nat → Int64))}, bel L i = true → ∀ b k, lkJ (L ++ shI i L') b k = if b < i then lkJ L b k else lkJ L' (b - i) k := by
  intro L
  induction L with
  | nil =>
    intro _ b k
    show lkJ (shI i L') b k = _
    induction L' with
    | nil => show (0 : Int64) = if b < i then 0 else 0; rw [ite_self]
    | cons e L' ih =>
      show (if b = i + e.1 then e.2 k else lkJ (shI i L') b k) = if b < i then 0 else (if b - i = e.1 then e.2 k else lkJ L' (b - i) k)
      rw [ih]
      by_cases c : b < i
      · rw [if_pos c, if_pos c, if_neg (by omega)]; rfl
      · rw [if_neg c, if_neg c]
        by_cases d : b = i + e.1
        · rw [if_pos d, if_pos (by omega)]
        · rw [if_neg d, if_neg (by omega)]
  | cons e L ih =>
    intro h b k
    have h' : (Nat.blt e.1 i && bel L i) = true := h
    rw [Bool.and_eq_true] at h'
    have h1 : e.1 < i := Nat.lt_of_lt_of_le (Nat.lt_succ_self _) (Nat.le_of_ble_eq_true h'.1)
    show (if b = e.1 then e.2 k else lkJ (L ++ shI i L') b k) = if b < i then (if b = e.1 then e.2 k else lkJ L b k) else lkJ L' (b - i) k
    rw [ih h'.2]
    by_cases c : b = e.1
    · rw [if_pos c, if_pos (by omega), if_pos c]
    · rw [if_neg c, if_neg c]
section ZZ
variable {B C : m_H} {L L' : List (Nat × Nat × Int32)} {J J' : List (Nat × (Nat → Int64))} {i k t l n : Nat}
theorem ZI_0 : ZI ew0 [] := fun _ _ => rfl
theorem ZI_nw (h : ZI B L) (hb : bel L B.2.2.2.2 = true) : ZI (m_nw B t l) L := fun b k => by
  show (if b = B.2.2.2.2 then 0 else B.1 b k) = _
  by_cases c : b = B.2.2.2.2
  · rw [if_pos c, lkI_hi hb b k (by omega)]
  · rw [if_neg c]; exact h b k
theorem ZI_sr {v : Option Nat} (h : ZI B L) : ZI (m_sr B i k v) L := h
theorem ZI_sj {v : Int64} (h : ZI B L) : ZI (m_sj B i k v) L := h
theorem ZI_si {v : Int32} (h : ZI B L) : ZI (m_si B i k v) ((i, k, v) :: L) := fun b k' => by
  show (if b = i ∧ k' = k then v else B.1 b k') = if b = i ∧ k' = k then v else lkI L b k'
  rw [h]
theorem ZI_si0 (h : ZI B L) (h0 : lkI L i k = 0) : ZI (m_si B i k 0) L := fun b k' => by
  show (if b = i ∧ k' = k then 0 else B.1 b k') = _
  by_cases c : b = i ∧ k' = k
  · rw [if_pos c, c.1, c.2, h0]
  · rw [if_neg c]; exact h b k'
theorem ZI_ex (h : ZI B L) (h' : ZI C L') (hb : bel L i = true) : ZI (exw B i C) (L ++ shI i L') := fun b k => by
  rw [lkI_ex hb]
  show (if b < i then B.1 b k else C.1 (b - i) k) = _
  rw [h, h']
theorem ZI_cw (h : ZI B L) (hb : bel L B.2.2.2.2 = true) : ZI (cwH B n) L := fun b k => by
  rw [(cwH_fr B n).1]
  exact ZI_nw h hb b k
theorem ZJ_0 : ZJ ew0 [] := fun _ _ => rfl
theorem ZJ_nw (h : ZJ B J) (hb : bel J B.2.2.2.2 = true) : ZJ (m_nw B t l) J := fun b k => by
  show (if b = B.2.2.2.2 then 0 else B.2.1 b k) = _
  by_cases c : b = B.2.2.2.2
  · rw [if_pos c, lkJ_hi hb b k (by omega)]
  · rw [if_neg c]; exact h b k
theorem ZJ_sr {v : Option Nat} (h : ZJ B J) : ZJ (m_sr B i k v) J := h
theorem ZJ_si {v : Int32} (h : ZJ B J) : ZJ (m_si B i k v) J := h
theorem ZJ_sj0 (h : ZJ B J) (h0 : lkJ J i k = 0) : ZJ (m_sj B i k 0) J := fun b k' => by
  show (if b = i ∧ k' = k then 0 else B.2.1 b k') = _
  by_cases c : b = i ∧ k' = k
  · rw [if_pos c, c.1, c.2, h0]
  · rw [if_neg c]; exact h b k'
theorem ZJ_st (i : Nat) (h : ZJ B J) (hb : bel J i = true) : ZJ B ((i, fun _ => 0) :: J) := fun b k => by
  rw [h]
  show _ = if b = i then 0 else lkJ J b k
  by_cases c : b = i
  · rw [if_pos c, lkJ_hi hb b k (by omega)]
  · rw [if_neg c]
theorem ZJ_sj {v : Int64} {f : Nat → Int64} (h : ZJ B ((i, f) :: J)) : ZJ (m_sj B i k v) ((i, updJ f k v) :: J) := fun b k' => by
  show (if b = i ∧ k' = k then v else B.2.1 b k') = if b = i then (if k' = k then v else f k') else lkJ J b k'
  rw [h]
  show (if b = i ∧ k' = k then v else (if b = i then f k' else lkJ J b k')) = _
  by_cases c : b = i
  · rw [if_pos c, if_pos c]
    by_cases e : k' = k
    · rw [if_pos ⟨c, e⟩, if_pos e]
    · rw [if_neg (fun z => e z.2), if_neg e]
  · rw [if_neg c, if_neg c, if_neg (fun z => c z.1)]
theorem ZJ_ex (h : ZJ B J) (h' : ZJ C J') (hb : bel J i = true) : ZJ (exw B i C) (J ++ shI i J') := fun b k => by
  rw [lkJ_ex hb]
  show (if b < i then B.2.1 b k else C.2.1 (b - i) k) = _
  rw [h, h']
theorem ZJ_cw (h : ZJ B J) (hi : B.2.2.2.2 = i) (hb : bel J i = true) : ZJ (cwH B n) ((i, cwA n) :: J) := fun b k => by
  subst hi
  show _ = if b = B.2.2.2.2 then cwA n k else lkJ J b k
  by_cases c : b = B.2.2.2.2
  · rw [if_pos c, c, cwH_A]
  · rw [if_neg c, (cwH_fr B n).2.2 b c]
    show (if b = B.2.2.2.2 then 0 else B.2.1 b k) = _
    rw [if_neg c]
    exact h b k
end ZZ
