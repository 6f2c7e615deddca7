/-! what holds between two calls -/
/-- a word's two codes -/
def c5 (w : List Nat) : Int64 := lN (w.foldl (fun a d => a * 32 + d) 0)
def c8 (w : List Nat) : Int64 := lN (w.foldl (fun a d => a * 256 + (96 + d)) 0)
def isWd (w : List Nat) : Prop := 1 ≤ w.length ∧ w.length ≤ 7 ∧ ∀ d ∈ w, 1 ≤ d ∧ d ≤ 26
def wr (x y : Int64) : Prop := ∃ w, isWd w ∧ x = c5 w ∧ y = c8 w
def rN1 (P : m_V) (N : m_L) (M : Nat → Int64) (s o : Nat) : Prop := ∀ i, i < ct P s → wr (N 2 (s * 12 + i)) (M (o + i))
def rN (P : m_V) (N : m_L) (M : Nat → Int64) : Prop := rN1 P N M 0 0 ∧ rN1 P N M 1 12 ∧ rN1 P N M 3 18 ∧ rN1 P N M 4 26 ∧ rN1 P N M 6 36
def wfM (P V : m_V) : Prop := ∃ n, V 0 1 = nI n ∧ n ≤ 1000 ∧ ∀ t, t < ct P 6 → ∃ m, V 6 t = nI m ∧ m ≤ n
/-- a step of a sentence, told in both -/
def rQ1 (P : m_V) (w thing sign a b c : Int32) : Prop := sign = b ∧ thing = c ∧ ((w = 21 ∧ a = 22) ∨ (w = 22 ∧ a = 21) ∨ (w = 23 ∧ a = 20) ∨ ∃ l, l < 8 ∧ w = nI (24 + l) ∧ a = nI l ∧ (l = 3 → ∃ n, c = nI n ∧ n < ct P 0) ∧ (l = 4 → ∃ n, c = nI n ∧ n < ct P 4) ∧ (5 ≤ l → b = 60 ∨ b = 61 ∨ b = 62))
/-- how many stand on the stack ahead of each step -/
def rQd (w : Nat → Int32) (m : Nat) : Prop := ∃ d : Nat → Nat, d 0 = 0 ∧ d m = 1 ∧ ∀ i, i < m → d i ≤ 20 ∧ ((w i = 23 ∧ 1 ≤ d i ∧ d (i + 1) = d i) ∨ ((w i = 21 ∨ w i = 22) ∧ 2 ≤ d i ∧ d (i + 1) + 1 = d i) ∨ (¬ w i = 21 ∧ ¬ w i = 22 ∧ ¬ w i = 23 ∧ d (i + 1) = d i + 1))
def rQ (P Q : m_V) (S : Nat → Int32) : Prop := (S 288 = 0 ∧ Q 0 0 = 0) ∨ (Q 0 0 = 1 ∧ ∃ m, 1 ≤ m ∧ m ≤ 40 ∧ Q 0 2 = nI m ∧ S 288 = nI m ∧ (∀ i, i < m → rQ1 P (Q 1 i) (Q 2 i) (Q 3 i) (S (289 + 3 * i)) (S (290 + 3 * i)) (S (291 + 3 * i))) ∧ rQd (Q 1) m)
/-- a layout, what is so, and a sentence: the component's and the reference's -/
def Wd (P : m_V) (N : m_L) (V Q : m_V) (S : Nat → Int32) (M : Nat → Int64) : Prop := wfL P ∧ wfC P ∧ RLa P S ∧ rN P N M ∧ wfN P V ∧ RW P V S ∧ wfM P V ∧ rQ P Q S
def I_t (X : X_) : Prop := ∃ n, n ≤ 1460 ∧ X.1 1 1 = nI n ∧ X.1 218 2 = nI n ∧ ∀ k, k < n → ∃ b, b < 256 ∧ X.1 2 k = nI b ∧ X.1 219 k &&& 255 = nI b
/-- the words that are no names, as they stand in the component's table, and in the reference's -/
def kwds : List (List Nat) := [[19, 5, 3, 20, 9, 15, 14], [16, 15, 9, 14, 20, 19], [20, 18, 1, 3, 11], [19, 9, 7, 14, 1, 12], [18, 15, 21, 20, 5], [12, 15, 3, 11], [20, 18, 1, 9, 14], [8, 15, 12, 4], [15, 22, 5, 18], [14, 15, 18, 13, 1, 12], [18, 5, 22, 5, 18, 19, 5], [4, 15, 23, 14], [21, 16], [19, 5, 20], [2, 1, 3, 11], [20, 8, 18, 15, 23], [6, 1, 9, 12], [3, 12, 5, 1, 18], [6, 21, 12, 12], [13, 5, 14, 4], [20, 9, 3, 11], [15, 18], [1, 14, 4], [14, 15, 20], [15, 21, 20], [3, 18, 1, 19, 8, 5, 4], [23, 1, 9, 20, 9, 14, 7], [9, 14], [21, 19, 9, 14, 7], [20, 9, 3, 11, 19], [23, 1, 9, 20, 5, 4], [14, 21, 13, 2, 5, 18]]
/-- where the k-th word of the reference's table stands in kwds -/
def kord : List Nat := [0, 1, 2, 3, 4, 8, 5, 6, 7, 9, 10, 11, 12, 13, 14, 15, 16, 17, 18, 19, 20, 21, 22, 23, 24, 25, 26, 27, 28, 29, 30, 31]
def I_k (X : X_) : Prop := ∀ k, k < 32 → X.2.1 3 k = c5 (kwds.getD k []) ∧ X.2.1 224 k = c8 (kwds.getD (kord.getD k 0) [])
def I_w (X : X_) : Prop := Wd (bP X 4) (bPJ X 4) (bV X 47) (bQ X 130) (X.1 220) (X.2.1 223)
def I_h (X : X_) : Prop := ∃ h, h ≤ 8 ∧ X.1 61 1 = nI h ∧ X.1 218 23 = nI h ∧ (∀ k, k < 9 → X.2.2 k < 9) ∧ (∀ i j, i < 9 → j < 9 → X.2.2 i = X.2.2 j → i = j) ∧ ∀ i, i < h → wfN (bP X 4) (bV X (63 + 7 * X.2.2 i)) ∧ wfM (bP X 4) (bV X (63 + 7 * X.2.2 i)) ∧ RW (bP X 4) (bV X (63 + 7 * X.2.2 i)) (fun k => X.1 225 (62 * i + (k - 226)))
def I_i1 (X : X_) (k b : Nat) : Prop := X.1 b 3 = X.1 238 k ∧ (X.1 b 3 = 0 ∨ X.1 b 3 = 1 ∧ Wd (bP X (b + 1)) (bPJ X (b + 1)) (bV X (b + 27)) (bQ X (b + 22)) (fun j => X.1 236 (469 * k + j)) (fun j => X.2.1 237 (41 * k + j)))
def I_i (X : X_) : Prop := I_i1 X 0 150 ∧ I_i1 X 1 184
def I_b (X : X_) : Prop := X.1 126 4 = X.1 218 40 ∧ (X.1 126 4 = 0 ∨ X.1 126 4 = 1 ∧ X.1 126 5 = X.1 233 0 ∧ X.1 126 6 = X.1 233 1 ∧ X.1 126 7 = X.1 233 2 ∧ X.1 126 8 = X.1 233 3)
/-- a row of answers that was told: how many, and which -/
def I_r (n m : Int32) (most : Nat) (f g : Nat → Int32) : Prop := (n = 0 ∧ m = -1) ∨ ∃ k, k ≤ most ∧ n = nI k ∧ m = nI k ∧ ∀ i, i < k → f i = g i
def I_c (X : X_) : Prop := I_r (X.1 141 1) (X.1 218 25) 16 (X.1 142) (X.1 227) ∧ I_r (X.1 141 3) (X.1 218 31) 10 (X.1 143) (X.1 230)
def I_f (X : X_) : Prop := I_r (X.1 146 1) (X.1 218 33) 25 (X.1 147) (X.1 231) ∧ ((X.1 218 33 = -1 ∧ X.1 146 2 = -1) ∨ (0 < X.1 218 33 ∧ X.1 146 2 = X.1 218 34))
def I_g (X : X_) : Prop := ∃ n, n ≤ 26 ∧ X.1 148 1 = nI n ∧ X.1 218 36 = nI n ∧ ∀ i, i < n → X.1 149 i = X.1 232 i
def I_o (X : X_) : Prop := X.1 0 13 = X.1 218 15 ∧ X.1 0 14 = (if X.1 218 28 = 0 then -1 else X.1 218 27)
def Inv (X : X_) : Prop := I_t X ∧ I_k X ∧ I_w X ∧ I_h X ∧ I_i X ∧ I_b X ∧ I_c X ∧ I_f X ∧ I_g X ∧ I_o X
section IV
variable {X : X_}
theorem Inv.t (h : Inv X) : I_t X := h.1
theorem Inv.k (h : Inv X) : I_k X := h.2.1
theorem Inv.w (h : Inv X) : I_w X := h.2.2.1
theorem Inv.h (h : Inv X) : I_h X := h.2.2.2.1
theorem Inv.i (h : Inv X) : I_i X := h.2.2.2.2.1
theorem Inv.b (h : Inv X) : I_b X := h.2.2.2.2.2.1
theorem Inv.c (h : Inv X) : I_c X := h.2.2.2.2.2.2.1
theorem Inv.f (h : Inv X) : I_f X := h.2.2.2.2.2.2.2.1
theorem Inv.g (h : Inv X) : I_g X := h.2.2.2.2.2.2.2.2.1
theorem Inv.o (h : Inv X) : I_o X := h.2.2.2.2.2.2.2.2.2
section WD
variable {P : m_V} {N : m_L} {V Q : m_V} {S : Nat → Int32} {M : Nat → Int64}
theorem Wd.l (h : Wd P N V Q S M) : wfL P := h.1
theorem Wd.ok (h : Wd P N V Q S M) : okP P := h.1.1
theorem Wd.c (h : Wd P N V Q S M) : wfC P := h.2.1
theorem Wd.r (h : Wd P N V Q S M) : RLa P S := h.2.2.1
theorem Wd.n (h : Wd P N V Q S M) : rN P N M := h.2.2.2.1
theorem Wd.v (h : Wd P N V Q S M) : wfN P V := h.2.2.2.2.1
theorem Wd.s (h : Wd P N V Q S M) : RW P V S := h.2.2.2.2.2.1
theorem Wd.m (h : Wd P N V Q S M) : wfM P V := h.2.2.2.2.2.2.1
theorem Wd.q (h : Wd P N V Q S M) : rQ P Q S := h.2.2.2.2.2.2.2
end WD
/-- the old words -/
theorem wfP_of {P : m_V} (h : wfL P) : wfP P := by
  have h0 := h.ok.c0.2
  have h3 := h.ok.c3.2
  refine ⟨h.ok, fun r hr => ?_, fun r hr h12 => ?_, fun k hk => ?_⟩
  · obtain ⟨⟨g, e, hg⟩, -⟩ := h.r r hr
    exact ⟨g, e, by omega⟩
  · obtain ⟨-, ⟨m, em, hm, hc, -⟩, -⟩ := h.r r hr
    have hm0 : 0 < m := by
      rcases Nat.eq_zero_or_pos m with z | z
      · rw [em, z] at h12; exact absurd nI_0 h12
      · exact z
    obtain ⟨c, e, hc⟩ := hc 0 hm0
    exact ⟨c, by omega, e⟩
  · obtain ⟨⟨a, ea, ha⟩, ⟨b, eb, hb⟩, -⟩ := h.t k hk
    exact ⟨⟨a, by omega, ea⟩, ⟨b, by omega, eb⟩⟩
theorem okS_of {P V : m_V} (hL : wfL P) (h : wfN P V) : okS P V := by
  have h0 := hL.ok.c0.2
  refine ⟨fun t ht => ?_, fun r hr e => (h.2.1 r hr).1 e⟩
  rcases h.2.2 t ht with e | ⟨c, e, hc⟩
  · exact Or.inl e
  · exact Or.inr ⟨c, by omega, e⟩
/-- cells that a block's picture rests on -/
theorem bB_same {n b : Nat} {X' : X_} (h : ∀ a, b ≤ a → a < b + n → X'.1 a = X.1 a) : bB n X' b = bB n X b := by
  funext j k
  unfold bB
  by_cases c : j < n
  · rw [if_pos c, if_pos c, h (b + j) (by omega) (by omega)]
  · rw [if_neg c, if_neg c]
theorem bL_same {n b : Nat} {X' : X_} (h : ∀ a, b ≤ a → a < b + n → X'.2.1 a = X.2.1 a) : bL n X' b = bL n X b := by
  funext j k
  unfold bL
  by_cases c : j < n
  · rw [if_pos c, if_pos c, h (b + j) (by omega) (by omega)]
  · rw [if_neg c, if_neg c]
/-- the component's cells stay -/
def sameC (X X' : X_) : Prop := (∀ a, a < 218 → X'.1 a = X.1 a) ∧ (∀ a, a < 218 → X'.2.1 a = X.2.1 a) ∧ X'.2.2 = X.2.2
theorem sameC.P {X' : X_} (h : sameC X X') {p : Nat} (hp : p ≤ 197) : bP X' p = bP X p := bB_same (fun a _ h2 => h.1 a (by omega))
theorem sameC.PJ {X' : X_} (h : sameC X X') {p : Nat} (hp : p ≤ 197) : bPJ X' p = bPJ X p := bL_same (fun a _ h2 => h.2.1 a (by omega))
theorem sameC.V {X' : X_} (h : sameC X X') {p : Nat} (hp : p ≤ 211) : bV X' p = bV X p := bB_same (fun a _ h2 => h.1 a (by omega))
theorem sameC.Q {X' : X_} (h : sameC X X') {p : Nat} (hp : p ≤ 213) : bQ X' p = bQ X p := bB_same (fun a _ h2 => h.1 a (by omega))
theorem Inv.thrown {v : Int32} (h : Inv X) : Inv (sI X 218 0 v) := by
  have hs : sameC X (sI X 218 0 v) := ⟨fun a ha => sI_row (by omega), fun a _ => rfl, rfl⟩
  have e : ∀ k, ¬ k = 0 → (sI X 218 0 v).1 218 k = X.1 218 k := fun k hk => by rw [sI_i, if_neg (by omega)]
  have r : ∀ a, ¬ a = 218 → (sI X 218 0 v).1 a = X.1 a := fun a ha => sI_row ha
  obtain ⟨h1, h2, h3, h4, h5, h6, h7, h8, h9, h10⟩ := h
  refine ⟨?_, h2, ?_, ?_, ?_, ?_, ?_, ?_, ?_, ?_⟩
  · unfold I_t; rw [r 1 (by decide), r 2 (by decide), r 219 (by decide), e 2 (by decide)]; exact h1
  · unfold I_w; rw [hs.P (by decide), hs.PJ (by decide), hs.V (by decide), hs.Q (by decide), r 220 (by decide)]; exact h3
  · obtain ⟨m, q1, q2, q3, q4, q5, q6⟩ := h4
    refine ⟨m, q1, by rw [r 61 (by decide)]; exact q2, by rw [e 23 (by decide)]; exact q3, q4, q5, fun i hi => ?_⟩
    have := q4 i (by omega)
    rw [hs.P (by decide), sI_g, hs.V (by omega), r 225 (by decide)]
    exact q6 i hi
  · unfold I_i I_i1
    rw [hs.P (by decide), hs.PJ (by decide), hs.V (by decide), hs.Q (by decide), hs.P (by decide), hs.PJ (by decide), hs.V (by decide), hs.Q (by decide), r 150 (by decide), r 184 (by decide), r 238 (by decide), r 236 (by decide)]
    exact h5
  · unfold I_b; rw [r 126 (by decide), r 233 (by decide), e 40 (by decide)]; exact h6
  · unfold I_c; rw [r 141 (by decide), r 142 (by decide), r 143 (by decide), r 227 (by decide), r 230 (by decide), e 25 (by decide), e 31 (by decide)]; exact h7
  · unfold I_f; rw [r 146 (by decide), r 147 (by decide), r 231 (by decide), e 33 (by decide), e 34 (by decide)]; exact h8
  · unfold I_g; rw [r 148 (by decide), r 149 (by decide), r 232 (by decide), e 36 (by decide)]; exact h9
  · unfold I_o; rw [r 0 (by decide), e 15 (by decide), e 28 (by decide), e 27 (by decide)]; exact h10
end IV
/-- both answer alike, and what holds holds on -/
def Sim {α : Type} (f g : RM α) : Prop := ∀ X, Inv X → ∃ v X1 X2, f X = some (v, X1) ∧ g X1 = some (v, X2) ∧ Inv X2
theorem sim_rd {α : Type} {f g : RM α} (h : ∀ X, Inv X → ∃ v, f X = some (v, X) ∧ g (sI X 218 0 0) = some (v, sI X 218 0 0)) : Sim f (pI 218 0 0 g) := fun X hX => by
  obtain ⟨v, h1, h2⟩ := h X hX
  exact ⟨v, X, sI X 218 0 0, h1, h2, hX.thrown⟩
