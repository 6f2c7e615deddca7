/-! a book: both read it -/
section BK
variable {X Y X1 Y1 X0 Y0 : X_} {n p : Nat} {W1 W2 W3 T : Nat → Int32} {lx ly : Int32}
def LFb (X0 X : X_) : Prop := (∀ a, ¬ a = 1 → ¬ (126 ≤ a ∧ a < 130) → X.1 a = X0.1 a) ∧ (∀ k, ¬ k = 3 → X.1 126 k = X0.1 126 k) ∧ (∀ a, ¬ a = 1 → X.2.1 a = X0.2.1 a) ∧ X.2.2 = X0.2.2
def LGb (Y0 Y : X_) : Prop := (∀ a, ¬ a = 218 → ¬ a = 222 → Y.1 a = Y0.1 a) ∧ (∀ k, k < 3 ∨ (20 < k ∧ ¬ k = 38) → Y.1 218 k = Y0.1 218 k) ∧ (∀ a, ¬ a = 218 → Y.2.1 a = Y0.2.1 a) ∧ Y.2.2 = Y0.2.2
theorem LFb.k (h : LFb X0 X) (k : kS X X1) : LFb X0 X1 := ⟨fun a h1 h2 => (k.1 a h1).trans (h.1 a h1 h2), fun j hj => (congrFun (k.1 126 (by decide)) j).trans (h.2.1 j hj), fun a h1 => (funext (fun j => k.2.2.1 a j (fun z => h1 z.1))).trans (h.2.2.1 a h1), k.2.2.2.trans h.2.2.2⟩
theorem LGb.g (h : LGb Y0 Y) (g : gS Y Y1) : LGb Y0 Y1 := ⟨fun a h1 h2 => (g.1 a h1).trans (h.1 a h1 h2), fun k hk => (g.2.1 k (by omega) (by omega)).trans (h.2.1 k hk), fun a h1 => (funext (fun j => g.2.2.1 a j (fun z => h1 z.1))).trans (h.2.2.1 a h1), g.2.2.2.trans h.2.2.2⟩
def LXb (X0 Y0 X1 Y1 : X_) : Prop := LFb X0 X1 ∧ LGb Y0 Y1 ∧ X1.1 1 9 = Y1.1 218 15 ∧ X1.1 1 10 = Y1.1 218 16
def BS (X0 Y0 : X_) (n p : Nat) (W1 W2 W3 T : Nat → Int32) (lx ly : Int32) (X Y : X_) : Prop := (TB X Y n 400 p ∧ X.1 1 9 = 0 ∧ Y.1 218 15 = 0) ∧ LFb X0 X ∧ LGb Y0 Y ∧ (X.1 127 = W1 ∧ X.1 128 = W2 ∧ X.1 129 = W3) ∧ Y.1 222 = T ∧ X.1 126 3 = lx ∧ Y.1 218 38 = ly
theorem BS.b (h : BS X0 Y0 n p W1 W2 W3 T lx ly X Y) : TB X Y n 400 p := h.1.1
theorem BS.fail (h : BS X0 Y0 n p W1 W2 W3 T lx ly X Y) (e : FL X Y X1 Y1) : LXb X0 Y0 X1 Y1 := ⟨h.2.1.k e.1, h.2.2.1.g e.2.1, e.2.2⟩
theorem BS.P (h : BS X0 Y0 n p W1 W2 W3 T lx ly X Y) : bP X 4 = bP X0 4 ∧ bPJ X 4 = bPJ X0 4 := ⟨bB_same (fun a h1 h2 => h.2.1.1 a (by omega) (by omega)), bL_same (fun a h1 h2 => h.2.1.2.2.1 a (by omega))⟩
theorem BS.S (h : BS X0 Y0 n p W1 W2 W3 T lx ly X Y) : Y.1 220 = Y0.1 220 ∧ Y.2.1 223 = Y0.2.1 223 := ⟨h.2.2.1.1 220 (by decide) (by decide), h.2.2.1.2.2.1 223 (by decide)⟩
theorem BS.next (h : BS X0 Y0 n p W1 W2 W3 T lx ly X Y) : ∃ X1 Y1 p', fX10_next X = some ((), X1) ∧ fX12_next Y = some ((), Y1) ∧ BS X0 Y0 n p' W1 W2 W3 T lx ly X1 Y1 ∧ TK X1 Y1 ∧ Y1.1 218 18 = Y.1 218 18 ∧ p ≤ p' ∧ (X1.1 1 4 = 3 → ∃ a, X1.1 1 5 = nI a ∧ p ≤ a ∧ a < p' ∧ a < 400) ∧ (X1.1 1 4 = 1 ∨ X1.1 1 4 = 2 → p < p') := by
  obtain ⟨⟨hB, hB9, hB15⟩, hF, hG, ⟨h1, h2, h3⟩, h4, h5, h6⟩ := h
  obtain ⟨X1, Y1, p', a1, a2, a3, a4, a5, a6, a7, a8, a9, a10, a11, a12⟩ := r_nextM hB
  exact ⟨X1, Y1, p', a1, a2, ⟨⟨a3, by rw [a11]; exact hB9, by rw [a12]; exact hB15⟩, hF.k a5, hG.g a6, ⟨by rw [a5.1 127 (by decide)]; exact h1, by rw [a5.1 128 (by decide)]; exact h2, by rw [a5.1 129 (by decide)]; exact h3⟩, by rw [a6.1 222 (by decide)]; exact h4, by rw [a5.1 126 (by decide)]; exact h5, by rw [a6.2.1 38 (by decide) (by omega)]; exact h6⟩, a4, a7, a8, a9, a10⟩
theorem sI_up {a k : Nat} {v : Int32} : (sI Y a k v).1 a = upS (Y.1 a) k v := by
  funext j
  rw [sI_i]
  unfold upS
  exact if_iff ⟨fun z => z.2, fun z => ⟨rfl, z⟩⟩
theorem BS.got (h : BS X0 Y0 n p W1 W2 W3 T lx ly X Y) (v : Int32) : BS X0 Y0 n p W1 W2 W3 T lx ly X (sI Y 218 18 v) := by
  obtain ⟨⟨hB, hB9, hB15⟩, hF, hG, h1, h4, h5, h6⟩ := h
  exact ⟨⟨hB.y (sI_ne (by omega)) (sI_ne (by omega)) (sI_ne (by omega)) (sI_row (by decide)) rfl, hB9, by rw [sI_ne (by omega)]; exact hB15⟩, hF, hG.g (gS.i (by omega)), h1, by rw [sI_row (by decide)]; exact h4, h5, by rw [sI_ne (by omega)]; exact h6⟩
theorem BS.y (h : BS X0 Y0 n p W1 W2 W3 T lx ly X Y) (k : Nat) (v : Int32) : BS X0 Y0 n p W1 W2 W3 (upS T k v) lx ly X (sI Y 222 k v) := by
  obtain ⟨⟨hB, hB9, hB15⟩, hF, hG, h1, h4, h5, h6⟩ := h
  refine ⟨⟨hB.y (sI_ne (by omega)) (sI_ne (by omega)) (sI_ne (by omega)) (sI_row (by decide)) rfl, hB9, by rw [sI_ne (by omega)]; exact hB15⟩, hF, ⟨fun a h1 h2 => (sI_row h2).trans (hG.1 a h1 h2), fun j hj => (sI_ne (by omega)).trans (hG.2.1 j hj), hG.2.2.1, hG.2.2.2⟩, h1, by rw [sI_up, h4], h5, by rw [sI_ne (by omega)]; exact h6⟩
theorem BS.x3 (h : BS X0 Y0 n p W1 W2 W3 T lx ly X Y) (k : Nat) (u v w : Int32) : BS X0 Y0 n p (upS W1 k u) (upS W2 k v) (upS W3 k w) T lx ly (sI (sI (sI X 127 k u) 128 k v) 129 k w) Y := by
  obtain ⟨⟨hB, hB9, hB15⟩, hF, hG, ⟨h1, h2, h3⟩, h4, h5, h6⟩ := h
  have r : ∀ a, ¬ a = 127 → ¬ a = 128 → ¬ a = 129 → (sI (sI (sI X 127 k u) 128 k v) 129 k w).1 a = X.1 a := fun a q1 q2 q3 => by rw [sI_row q3, sI_row q2, sI_row q1]
  refine ⟨⟨hB.x (r 1 (by decide) (by decide) (by decide)) (r 2 (by decide) (by decide) (by decide)) rfl, by rw [r 1 (by decide) (by decide) (by decide)]; exact hB9, hB15⟩, ⟨fun a q1 q2 => (r a (by omega) (by omega) (by omega)).trans (hF.1 a q1 q2), fun j hj => (congrFun (r 126 (by decide) (by decide) (by decide)) j).trans (hF.2.1 j hj), hF.2.2.1, hF.2.2.2⟩, hG, ⟨?_, ?_, ?_⟩, h4, by rw [r 126 (by decide) (by decide) (by decide)]; exact h5, h6⟩
  · rw [sI_row (by decide), sI_row (by decide), sI_up, h1]
  · rw [sI_row (by decide), sI_up, sI_row (by decide), h2]
  · rw [sI_up, sI_row (by decide), sI_row (by decide), h3]
theorem BS.look (h : BS X0 Y0 n p W1 W2 W3 T lx ly X Y) (K : TK X Y) {s f c : Nat} {a af am : Int32} (ha : a = nI s) (hs : s < 8) (hc : bP X0 4 1 s = nI c) (h12 : c ≤ 12) (hf : af = nI f) (hfc : f + c ≤ 41) (hm : am = nI c) (hN : ∀ i, i < c → wr (bPJ X0 4 2 (s * 12 + i)) (Y0.2.1 223 (f + i))) :
    (∃ X1 Y1, fX10_named 4 a X = some (-1, X1) ∧ fX12_looksAt af am Y = some (0, Y1) ∧ FL X Y X1 Y1) ∨ ∃ k, k < c ∧ fX10_named 4 a X = some (nI k, X) ∧ fX12_looksAt af am Y = some (1, sI Y 218 18 (nI k)) ∧ X.1 1 4 = 1 :=
  r_look h.b K ha hs (by rw [h.P.1]; exact hc) h12 hf (by omega) hm (fun i hi => by rw [h.P.2, h.S.2]; exact hN i hi)
theorem k_namB (h : BS X0 Y0 n p W1 W2 W3 T lx ly X Y) {s c : Nat} {a : Int32} (ha : a = nI s) (hs : s < 8) (hc : bP X0 4 1 s = nI c) (h12 : c ≤ 12) (hn : fX10_next X = some ((), X1)) : fX10_nextNamed 4 a X = fX10_named 4 a X1 := (k_nextNamed h.b.ok (by decide) ha hs (by rw [h.P.1]; exact hc) h12).trans (ca_s hn)
/-- a line told in both -/
def BR1 (P : m_V) (w t f a b c : Int32) : Prop := ∃ k, t = nI k ∧ b = nI k ∧ ((w = 13 ∧ a = 0 ∧ k < ct P 4) ∨ (w = 14 ∧ a = 1 ∧ k < ct P 4) ∨ (w = 15 ∧ a = 2 ∧ k < ct P 1) ∨ (w = 16 ∧ a = 3 ∧ k < ct P 0 ∧ (f = 0 ∨ f = 1) ∧ c = f) ∨ (w = 19 ∧ a = 4 ∧ k < ct P 0) ∨ (w = 20 ∧ a = 5 ∧ 1 ≤ k ∧ k ≤ 60))
def BR (P : m_V) (l : Nat) (W1 W2 W3 T : Nat → Int32) : Prop := ∀ i, i < l → BR1 P (W1 i) (W2 i) (W3 i) (T (3 * i)) (T (3 * i + 1)) (T (3 * i + 2))
theorem BR.add {P : m_V} {l : Nat} {u v w a b c : Int32} {T' : Nat → Int32} (h : BR P l W1 W2 W3 T) (h1 : BR1 P u v w a b c) (e : ∀ j, j < 3 * l → T' j = T j) (ea : T' (3 * l) = a) (eb : T' (3 * l + 1) = b) (ec : T' (3 * l + 2) = c) : BR P (l + 1) (upS W1 l u) (upS W2 l v) (upS W3 l w) T' := fun i hi => by
  by_cases q : i = l
  · subst q
    rw [upS_eq, upS_eq, upS_eq, ea, eb, ec]; exact h1
  · rw [upS_ne q, upS_ne q, upS_ne q, e _ (by omega), e _ (by omega), e _ (by omega)]; exact h i (by omega)
def BL (X0 Y0 : X_) (n p : Nat) (P : m_V) (l : Nat) (lx ly : Int32) (X Y : X_) : Prop := ∃ W1 W2 W3 T, BS X0 Y0 n p W1 W2 W3 T lx ly X Y ∧ BR P l W1 W2 W3 T
/-- a line, read by both -/
def BE (X0 Y0 : X_) (n p l : Nat) (X Y : X_) (f g : RM Int32) : Prop := ∃ v X1 Y1, f X = some (v, X1) ∧ g Y = some (v, Y1) ∧ ((v = 0 ∧ LXb X0 Y0 X1 Y1) ∨ (v = 1 ∧ ∃ p', BL X0 Y0 n p' (bP X0 4) (l + 1) (nI l) (nI l) X1 Y1 ∧ TK X1 Y1 ∧ p ≤ p' ∧ (X1.1 1 4 = 3 → ∃ a, X1.1 1 5 = nI a ∧ p ≤ a ∧ a < p' ∧ a < 400)))
theorem BE.bad {f g : RM Int32} {l : Nat} (h1 : f X = some (0, X1)) (h2 : g Y = some (0, Y1)) (h : LXb X0 Y0 X1 Y1) : BE X0 Y0 n p l X Y f g := ⟨0, X1, Y1, h1, h2, Or.inl ⟨rfl, h⟩⟩
theorem kw_c : c8 (kwds.getD 13 []) = 7562612 ∧ c8 (kwds.getD 14 []) = 1650549611 ∧ c8 (kwds.getD 15 []) = 499968536439 ∧ c8 (kwds.getD 16 []) = 1717660012 ∧ c8 (kwds.getD 17 []) = 427020345714 ∧ c8 (kwds.getD 18 []) = 1718971500 ∧ c8 (kwds.getD 19 []) = 1835363940 ∧ c8 (kwds.getD 20 []) = 1953063787 := by decide +kernel
end BK
