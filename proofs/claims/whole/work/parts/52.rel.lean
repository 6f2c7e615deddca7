/-! what a layout that was read holds; how the reference's row tells it -/
/-- bits below n alone -/
def lowB (x : Int32) (n : Nat) : Prop := ∀ i, n ≤ i → i < 32 → bt x i = false
def p_secs (P : m_V) (r m : Nat) : Int32 := lo (fun k a => a ||| (1 <<< (P 13 (r * 6 + k) &&& 31))) m 0
def wfS (P : m_V) : Prop := ∀ k, k < ct P 0 → ∃ l, P 3 k = nI l ∧ 1 ≤ l ∧ l ≤ 30
def wfQ (P : m_V) : Prop := ∀ k, k < ct P 1 → ∃ c, P 4 k = nI c ∧ c < ct P 0
def wfT (P : m_V) : Prop := ∀ k, k < ct P 2 → (∃ c, P 5 k = nI c ∧ c < ct P 0) ∧ (∃ c, P 6 k = nI c ∧ c < ct P 0) ∧ (P 7 k = -1 ∨ ∃ c, P 7 k = nI c ∧ c < ct P 1) ∧ (P 8 k = 0 ∨ P 8 k = 1)
def wfG (P : m_V) : Prop := ∀ g, g < ct P 3 → (∃ c, P 9 g = nI c ∧ c < ct P 0) ∧ (P 10 g = 0 ∨ P 10 g = 1) ∧ ∀ g', g' < ct P 3 → P 9 g' = P 9 g → P 10 g' = P 10 g → g' = g
def wfR (P : m_V) : Prop := ∀ r, r < ct P 4 → (∃ g, P 11 r = nI g ∧ g < ct P 3) ∧ (∃ m, P 12 r = nI m ∧ m ≤ 6 ∧ (∀ k, k < m → ∃ c, P 13 (r * 6 + k) = nI c ∧ c < ct P 0) ∧ P 14 r = p_secs P r m) ∧ lowB (P 15 r) (ct P 1) ∧ lowB (P 16 r) (ct P 1) ∧ lowB (P 17 r) (ct P 4) ∧ bt (P 17 r) r = false
def wfK (P : m_V) : Prop := ∀ r q, r < ct P 4 → q < ct P 4 → bt (P 17 r) q = bt (P 17 q) r
def wfV (P : m_V) : Prop := ∀ t, t < ct P 6 → (∃ c, P 19 t = nI c ∧ c < ct P 0) ∧ (P 20 t = 0 ∨ P 20 t = 1)
def wfC (P : m_V) : Prop := ∀ r, r < ct P 4 → P 18 r = bo (fun q => decide (q ≠ r) && p_conflict P r q) (ct P 4)
/-- a layout, but for its table of conflicts -/
def wfL (P : m_V) : Prop := okP P ∧ (∃ n, P 1 5 = nI n ∧ n ≤ 1000) ∧ (∃ n, P 1 7 = nI n ∧ 1 ≤ n ∧ n ≤ 30) ∧ wfS P ∧ wfQ P ∧ wfT P ∧ wfG P ∧ wfR P ∧ wfK P ∧ wfV P
def rlT (P : m_V) (S : Nat → Int32) : Prop := ∀ k, k < ct P 2 → S (26 + k) = P 5 k ∧ S (42 + k) = P 6 k ∧ S (58 + k) = P 7 k + 1 ∧ S (74 + k) = P 8 k
def rlR (P : m_V) (S : Nat → Int32) : Prop := ∀ r, r < ct P 4 → S (106 + r) = P 11 r ∧ S (116 + r) = P 12 r ∧ (∀ k, k < (P 12 r).toNatClampNeg → S (126 + 6 * r + k) = P 13 (r * 6 + k)) ∧ S (186 + r) = P 15 r ∧ S (196 + r) = P 16 r ∧ S (206 + r) = P 17 r
/-- the reference's row S tells the layout P -/
def RLa (P : m_V) (S : Nat → Int32) : Prop := (∀ k, k < 8 → S k = P 1 k) ∧ (∀ k, k < ct P 0 → S (8 + k) = P 3 k) ∧ (∀ k, k < ct P 1 → S (20 + k) = P 4 k) ∧ rlT P S ∧ (∀ g, g < ct P 3 → S (90 + g) = P 9 g ∧ S (98 + g) = P 10 g) ∧ rlR P S ∧ ∀ t, t < ct P 6 → S (216 + t) = P 19 t ∧ S (221 + t) = P 20 t
/-- what is so, in the component's own words -/
def wfA (P V : m_V) : Prop := lowB (V 0 3) (ct P 1) ∧ lowB (V 0 4) (ct P 0) ∧ lowB (V 0 5) (ct P 0) ∧ (∀ i, i < 32 → ¬ (bt (V 0 4) i = true ∧ bt (V 0 5) i = true)) ∧ lowB (V 0 6) (ct P 6) ∧ lowB (V 0 7) (ct P 6)
def wfB (P V : m_V) : Prop := ∀ r, r < ct P 4 → (V 1 r = 1 → ¬ P 12 r = 0) ∧ (V 1 r = 3 → ∃ n, V 2 r = nI n ∧ 1 ≤ n ∧ n ≤ 30)
def wfD (P V : m_V) : Prop := ∀ t, t < ct P 6 → V 4 t = -1 ∨ ∃ c, V 4 t = nI c ∧ c < ct P 0
def wfN (P V : m_V) : Prop := wfA P V ∧ wfB P V ∧ wfD P V
def rsR (P V : m_V) (S : Nat → Int32) : Prop := ∀ r, r < ct P 4 → S (229 + r) = V 1 r ∧ S (239 + r) = (if V 1 r = 3 then V 2 r else 0) ∧ S (249 + r) = if V 1 r = 2 then V 3 r + 1 else 0
def rsT (P V : m_V) (S : Nat → Int32) : Prop := ∀ t, t < ct P 6 → S (271 + t) = V 4 t + 1 ∧ S (276 + t) = V 5 t ∧ S (283 + t) = V 6 t
/-- the reference's row S tells what is so, but for who waits -/
def RS (P V : m_V) (S : Nat → Int32) : Prop := S 226 = V 0 1 ∧ S 227 = V 0 2 ∧ S 228 = V 0 3 ∧ S 281 = V 0 6 ∧ (∀ k, k < ct P 0 → S (259 + k) = s_failing V (nI k)) ∧ rsR P V S ∧ rsT P V S
/-- all of it -/
def RW (P V : m_V) (S : Nat → Int32) : Prop := RS P V S ∧ S 282 = V 0 7
section RLa
variable {P V : m_V} {S : Nat → Int32}
theorem okP.c0 (h : okP P) : P 1 0 = nI (ct P 0) ∧ ct P 0 ≤ 12 := h.1
theorem okP.c1 (h : okP P) : P 1 1 = nI (ct P 1) ∧ ct P 1 ≤ 6 := h.2.1
theorem okP.c2 (h : okP P) : P 1 2 = nI (ct P 2) ∧ ct P 2 ≤ 16 := h.2.2.1
theorem okP.c3 (h : okP P) : P 1 3 = nI (ct P 3) ∧ ct P 3 ≤ 8 := h.2.2.2.1
theorem okP.c4 (h : okP P) : P 1 4 = nI (ct P 4) ∧ ct P 4 ≤ 10 := h.2.2.2.2.1
theorem okP.c6 (h : okP P) : P 1 6 = nI (ct P 6) ∧ ct P 6 ≤ 5 := h.2.2.2.2.2
theorem wfL.ok (h : wfL P) : okP P := h.1
theorem wfL.hold (h : wfL P) : ∃ n, P 1 7 = nI n ∧ 1 ≤ n ∧ n ≤ 30 := h.2.2.1
theorem wfL.s (h : wfL P) : wfS P := h.2.2.2.1
theorem wfL.q (h : wfL P) : wfQ P := h.2.2.2.2.1
theorem wfL.t (h : wfL P) : wfT P := h.2.2.2.2.2.1
theorem wfL.g (h : wfL P) : wfG P := h.2.2.2.2.2.2.1
theorem wfL.r (h : wfL P) : wfR P := h.2.2.2.2.2.2.2.1
theorem wfL.k (h : wfL P) : wfK P := h.2.2.2.2.2.2.2.2.1
theorem wfL.v (h : wfL P) : wfV P := h.2.2.2.2.2.2.2.2.2
theorem RLa.n0 (h : RLa P S) (w : okP P) : S 0 = nI (ct P 0) := by rw [h.1 0 (by decide), w.c0.1]
theorem RLa.n1 (h : RLa P S) (w : okP P) : S 1 = nI (ct P 1) := by rw [h.1 1 (by decide), w.c1.1]
theorem RLa.n2 (h : RLa P S) (w : okP P) : S 2 = nI (ct P 2) := by rw [h.1 2 (by decide), w.c2.1]
theorem RLa.n3 (h : RLa P S) (w : okP P) : S 3 = nI (ct P 3) := by rw [h.1 3 (by decide), w.c3.1]
theorem RLa.n4 (h : RLa P S) (w : okP P) : S 4 = nI (ct P 4) := by rw [h.1 4 (by decide), w.c4.1]
theorem RLa.n6 (h : RLa P S) (w : okP P) : S 6 = nI (ct P 6) := by rw [h.1 6 (by decide), w.c6.1]
theorem RLa.len (h : RLa P S) {k : Nat} (hk : k < ct P 0) : S (8 + k) = P 3 k := h.2.1 k hk
theorem RLa.lie (h : RLa P S) {k : Nat} (hk : k < ct P 1) : S (20 + k) = P 4 k := h.2.2.1 k hk
theorem RLa.t (h : RLa P S) : rlT P S := h.2.2.2.1
theorem RLa.t5 (h : RLa P S) {k : Nat} (hk : k < ct P 2) : S (26 + k) = P 5 k := (h.t k hk).1
theorem RLa.t6 (h : RLa P S) {k : Nat} (hk : k < ct P 2) : S (42 + k) = P 6 k := (h.t k hk).2.1
theorem RLa.t7 (h : RLa P S) {k : Nat} (hk : k < ct P 2) : S (58 + k) = P 7 k + 1 := (h.t k hk).2.2.1
theorem RLa.t8 (h : RLa P S) {k : Nat} (hk : k < ct P 2) : S (74 + k) = P 8 k := (h.t k hk).2.2.2
theorem RLa.g9 (h : RLa P S) {k : Nat} (hk : k < ct P 3) : S (90 + k) = P 9 k := (h.2.2.2.2.1 k hk).1
theorem RLa.g10 (h : RLa P S) {k : Nat} (hk : k < ct P 3) : S (98 + k) = P 10 k := (h.2.2.2.2.1 k hk).2
theorem RLa.r (h : RLa P S) : rlR P S := h.2.2.2.2.2.1
theorem RLa.r11 (h : RLa P S) {r : Nat} (hr : r < ct P 4) : S (106 + r) = P 11 r := (h.r r hr).1
theorem RLa.r12 (h : RLa P S) {r : Nat} (hr : r < ct P 4) : S (116 + r) = P 12 r := (h.r r hr).2.1
theorem RLa.r13 (h : RLa P S) {r k : Nat} (hr : r < ct P 4) (hk : k < (P 12 r).toNatClampNeg) : S (126 + 6 * r + k) = P 13 (r * 6 + k) := (h.r r hr).2.2.1 k hk
theorem RLa.r15 (h : RLa P S) {r : Nat} (hr : r < ct P 4) : S (186 + r) = P 15 r := (h.r r hr).2.2.2.1
theorem RLa.r16 (h : RLa P S) {r : Nat} (hr : r < ct P 4) : S (196 + r) = P 16 r := (h.r r hr).2.2.2.2.1
theorem RLa.r17 (h : RLa P S) {r : Nat} (hr : r < ct P 4) : S (206 + r) = P 17 r := (h.r r hr).2.2.2.2.2
theorem RLa.v19 (h : RLa P S) {t : Nat} (ht : t < ct P 6) : S (216 + t) = P 19 t := (h.2.2.2.2.2.2 t ht).1
theorem RLa.v20 (h : RLa P S) {t : Nat} (ht : t < ct P 6) : S (221 + t) = P 20 t := (h.2.2.2.2.2.2 t ht).2
theorem RS.tick (h : RS P V S) : S 226 = V 0 1 := h.1
theorem RS.met (h : RS P V S) : S 227 = V 0 2 := h.2.1
theorem RS.rev (h : RS P V S) : S 228 = V 0 3 := h.2.2.1
theorem RS.cr (h : RS P V S) : S 281 = V 0 6 := h.2.2.2.1
theorem RS.fl (h : RS P V S) {k : Nat} (hk : k < ct P 0) : S (259 + k) = s_failing V (nI k) := h.2.2.2.2.1 k hk
theorem RS.r (h : RS P V S) : rsR P V S := h.2.2.2.2.2.1
theorem RS.how (h : RS P V S) {r : Nat} (hr : r < ct P 4) : S (229 + r) = V 1 r := (h.r r hr).1
theorem RS.tm (h : RS P V S) {r : Nat} (hr : r < ct P 4) : S (239 + r) = if V 1 r = 3 then V 2 r else 0 := (h.r r hr).2.1
theorem RS.us (h : RS P V S) {r : Nat} (hr : r < ct P 4) : S (249 + r) = if V 1 r = 2 then V 3 r + 1 else 0 := (h.r r hr).2.2
theorem RS.t (h : RS P V S) : rsT P V S := h.2.2.2.2.2.2
theorem RS.at (h : RS P V S) {t : Nat} (ht : t < ct P 6) : S (271 + t) = V 4 t + 1 := (h.t t ht).1
theorem RS.st (h : RS P V S) {t : Nat} (ht : t < ct P 6) : S (276 + t) = V 5 t := (h.t t ht).2.1
theorem RS.wd (h : RS P V S) {t : Nat} (ht : t < ct P 6) : S (283 + t) = V 6 t := (h.t t ht).2.2
/-- the sections of a route as bits -/
theorem p_secs_bt {r : Nat} : ∀ m, m ≤ 6 → (∀ k, k < m → ∃ c, P 13 (r * 6 + k) = nI c ∧ c < 32) → ∀ i, i < 32 → (bt (p_secs P r m) i = true ↔ ∃ k, k < m ∧ P 13 (r * 6 + k) = nI i) := by
  intro m
  induction m with
  | zero => intro _ _ i hi; simp [p_secs, lo, b_0]
  | succ m ih =>
    intro hm hc i hi
    obtain ⟨c, ec, hc32⟩ := hc m (by omega)
    have e : p_secs P r (m + 1) = p_secs P r m ||| (1 <<< (P 13 (r * 6 + m) &&& 31)) := rfl
    rw [e, b_or, ec, b_bit hc32 hi, Bool.or_eq_true, ih (by omega) (fun k hk => hc k (by omega)) i hi, decide_eq_true_eq]
    constructor
    · rintro (⟨k, hk, h⟩ | h)
      · exact ⟨k, by omega, h⟩
      · exact ⟨m, by omega, by rw [ec, h]⟩
    · rintro ⟨k, hk, h⟩
      by_cases c1 : k = m
      · subst c1
        rw [ec] at h
        exact Or.inr ((nI_eq (by omega) (by omega)).mp h).symm
      · exact Or.inl ⟨k, by omega, h⟩
end RLa
