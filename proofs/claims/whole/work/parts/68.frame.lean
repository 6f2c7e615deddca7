/-! what a clause rests on -/
section FR
variable {X X' : X_}
theorem bk_row {b n c : Nat} {V : m_V} {L : m_L} (h : ¬ (b ≤ c ∧ c < b + n)) : (bk X b n V L).1 c = X.1 c := by
  funext k
  exact if_neg h
theorem bk_rowJ {b n c : Nat} {V : m_V} {L : m_L} (h : ¬ (b ≤ c ∧ c < b + n)) : (bk X b n V L).2.1 c = X.2.1 c := by
  funext k
  exact if_neg h
theorem bk_g {b n : Nat} {V : m_V} {L : m_L} : (bk X b n V L).2.2 = X.2.2 := rfl
theorem bkS_row {S : m_TX} {c : Nat} (h : ¬ (1 ≤ c ∧ c < 4)) : (bkS X S).1 c = X.1 c := bk_row h
theorem bkS_rowJ {S : m_TX} {c : Nat} (h : ¬ (1 ≤ c ∧ c < 4)) : (bkS X S).2.1 c = X.2.1 c := bk_rowJ h
theorem setR_2 {a : Nat} {f : Nat → Int32} : (setR X a f).2 = X.2 := rfl
theorem bk_in {b n j : Nat} {V : m_V} {L : m_L} (h : j < n) : (bk X b n V L).1 (b + j) = V j := by
  funext k
  show (if b ≤ b + j ∧ b + j < b + n then V (b + j - b) k else _) = _
  rw [if_pos (by omega), Nat.add_sub_cancel_left]
theorem bk_in0 {b n : Nat} {V : m_V} {L : m_L} (h : 0 < n) : (bk X b n V L).1 b = V 0 := bk_in (j := 0) h
theorem bk_inJ {b n j : Nat} {V : m_V} {L : m_L} (h : j < n) : (bk X b n V L).2.1 (b + j) = L j := by
  funext k
  show (if b ≤ b + j ∧ b + j < b + n then L (b + j - b) k else _) = _
  rw [if_pos (by omega), Nat.add_sub_cancel_left]
def trim (n : Nat) (V : m_V) : m_V := fun j k => if j < n then V j k else 0
theorem bB_bk {b n : Nat} {V : m_V} {L : m_L} : bB n (bk X b n V L) b = trim n V := by
  funext j k
  unfold bB trim
  by_cases c : j < n
  · rw [if_pos c, if_pos c, bk_in c]
  · rw [if_neg c, if_neg c]
theorem bB_bk' {b n c m : Nat} {V : m_V} {L : m_L} (h : c + m ≤ b ∨ b + n ≤ c) : bB m (bk X b n V L) c = bB m X c := bB_same (fun a h1 h2 => bk_row (by omega))
theorem bL_bk' {b n c m : Nat} {V : m_V} {L : m_L} (h : c + m ≤ b ∨ b + n ≤ c) : bL m (bk X b n V L) c = bL m X c := bL_same (fun a h1 h2 => bk_rowJ (by omega))
theorem I_t.of (h : I_t X) (h1 : X'.1 1 1 = X.1 1 1) (h2 : X'.1 2 = X.1 2) (h3 : X'.1 218 2 = X.1 218 2) (h4 : X'.1 219 = X.1 219) : I_t X' := by unfold I_t; rw [h1, h2, h3, h4]; exact h
theorem I_k.of (h : I_k X) (h1 : X'.2.1 3 = X.2.1 3) (h2 : X'.2.1 224 = X.2.1 224) : I_k X' := by unfold I_k; rw [h1, h2]; exact h
theorem I_w.of (h : I_w X) (h1 : ∀ a, (4 ≤ a ∧ a < 25) ∨ (47 ≤ a ∧ a < 54) ∨ (130 ≤ a ∧ a < 135) ∨ a = 220 → X'.1 a = X.1 a) (h2 : ∀ a, (4 ≤ a ∧ a < 25) ∨ a = 223 → X'.2.1 a = X.2.1 a) : I_w X' := by
  unfold I_w
  rw [show bP X' 4 = bP X 4 from bB_same (fun a _ _ => h1 a (by omega)), show bPJ X' 4 = bPJ X 4 from bL_same (fun a _ _ => h2 a (by omega)), show bV X' 47 = bV X 47 from bB_same (fun a _ _ => h1 a (by omega)), show bQ X' 130 = bQ X 130 from bB_same (fun a _ _ => h1 a (by omega)), h1 220 (by omega), h2 223 (by omega)]
  exact h
theorem I_h.of (h : I_h X) (h1 : ∀ a, (4 ≤ a ∧ a < 25) ∨ (61 ≤ a ∧ a < 126) ∨ a = 225 → X'.1 a = X.1 a) (h23 : X'.1 218 23 = X.1 218 23) (hg : X'.2.2 = X.2.2) : I_h X' := by
  obtain ⟨m, q1, q2, q3, q4, q5, q6⟩ := h
  refine ⟨m, q1, by rw [h1 61 (by omega)]; exact q2, by rw [h23]; exact q3, by rw [hg]; exact q4, by rw [hg]; exact q5, fun i hi => ?_⟩
  have := q4 i (by omega)
  rw [show bP X' 4 = bP X 4 from bB_same (fun a _ _ => h1 a (by omega)), hg, show bV X' (63 + 7 * X.2.2 i) = bV X (63 + 7 * X.2.2 i) from bB_same (fun a _ _ => h1 a (by omega)), h1 225 (by omega)]
  exact q6 i hi
theorem I_i1.of {k b : Nat} (hk : b = 150 ∨ b = 184) (h : I_i1 X k b) (h1 : ∀ a, (b ≤ a ∧ a < b + 34) ∨ a = 236 → X'.1 a = X.1 a) (h8 : X'.1 238 k = X.1 238 k) (h2 : ∀ a, (b ≤ a ∧ a < b + 34) ∨ a = 237 → X'.2.1 a = X.2.1 a) : I_i1 X' k b := by
  unfold I_i1
  rw [show bP X' (b + 1) = bP X (b + 1) from bB_same (fun a _ _ => h1 a (by omega)), show bPJ X' (b + 1) = bPJ X (b + 1) from bL_same (fun a _ _ => h2 a (by omega)), show bV X' (b + 27) = bV X (b + 27) from bB_same (fun a _ _ => h1 a (by omega)), show bQ X' (b + 22) = bQ X (b + 22) from bB_same (fun a _ _ => h1 a (by omega)), h1 b (by omega), h1 236 (by omega), h8, h2 237 (by omega)]
  exact h
theorem I_i.of (h : I_i X) (h1 : ∀ a, (150 ≤ a ∧ a < 218) ∨ a = 236 ∨ a = 238 → X'.1 a = X.1 a) (h2 : ∀ a, (150 ≤ a ∧ a < 218) ∨ a = 237 → X'.2.1 a = X.2.1 a) : I_i X' :=
  ⟨h.1.of (Or.inl rfl) (fun a ha => h1 a (by omega)) (by rw [h1 238 (by omega)]) (fun a ha => h2 a (by omega)), h.2.of (Or.inr rfl) (fun a ha => h1 a (by omega)) (by rw [h1 238 (by omega)]) (fun a ha => h2 a (by omega))⟩
theorem I_b.of (h : I_b X) (h1 : X'.1 126 = X.1 126) (h2 : X'.1 218 40 = X.1 218 40) (h3 : X'.1 233 = X.1 233) : I_b X' := by unfold I_b; rw [h1, h2, h3]; exact h
theorem I_c.of (h : I_c X) (h1 : ∀ a, (141 ≤ a ∧ a ≤ 143) ∨ a = 227 ∨ a = 230 → X'.1 a = X.1 a) (h2 : X'.1 218 25 = X.1 218 25) (h3 : X'.1 218 31 = X.1 218 31) : I_c X' := by
  unfold I_c
  rw [h1 141 (by omega), h1 142 (by omega), h1 143 (by omega), h1 227 (by omega), h1 230 (by omega), h2, h3]
  exact h
theorem I_f.of (h : I_f X) (h1 : ∀ a, (146 ≤ a ∧ a ≤ 147) ∨ a = 231 → X'.1 a = X.1 a) (h2 : X'.1 218 33 = X.1 218 33) (h3 : X'.1 218 34 = X.1 218 34) : I_f X' := by
  unfold I_f
  rw [h1 146 (by omega), h1 147 (by omega), h1 231 (by omega), h2, h3]
  exact h
theorem I_g.of (h : I_g X) (h1 : ∀ a, (148 ≤ a ∧ a ≤ 149) ∨ a = 232 → X'.1 a = X.1 a) (h2 : X'.1 218 36 = X.1 218 36) : I_g X' := by
  unfold I_g
  rw [h1 148 (by omega), h1 149 (by omega), h1 232 (by omega), h2]
  exact h
theorem I_o.of (h : I_o X) (h1 : X'.1 0 = X.1 0) (h2 : X'.1 218 15 = X.1 218 15) (h3 : X'.1 218 27 = X.1 218 27) (h4 : X'.1 218 28 = X.1 218 28) : I_o X' := by unfold I_o; rw [h1, h2, h3, h4]; exact h
end FR
