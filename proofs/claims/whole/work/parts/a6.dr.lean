/-! the layout that both are reading -/
section DF
variable {D D' : m_V} {N N' : m_L} {S S' : Nat → Int32} {M M' : Nat → Int64}
theorem u2_row {j k j' : Nat} {v : Int32} (h : ¬ j' = j) : u2 D j k v j' = D j' := by
  funext i
  exact u2_ne (fun z => h z.1)
theorem u2l_ne {j k j' k' : Nat} {v : Int64} (h : ¬ (j' = j ∧ k' = k)) : u2l N j k v j' k' = N j' k' := if_neg h
theorem u2l_eq {j k : Nat} {v : Int64} : u2l N j k v j k = v := if_pos ⟨rfl, rfl⟩
theorem ct_row {s : Nat} (h : D' 1 = D 1) : ct D' s = ct D s := by unfold ct; rw [h]
theorem ct_1 {s c : Nat} (h : D 1 s = nI c) (hc : c < 2 ^ 31) : ct D s = c := by unfold ct; rw [h, nI_clamp hc]
def uM (M : Nat → Int64) (k : Nat) (v : Int64) : Nat → Int64 := fun j => if j = k then v else M j
theorem uM_ne {k j : Nat} {v : Int64} (h : ¬ j = k) : uM M k v j = M j := if_neg h
theorem uM_eq {k : Nat} {v : Int64} : uM M k v k = v := if_pos rfl
def d0 (D : m_V) (N : m_L) (S : Nat → Int32) (M : Nat → Int64) : Prop := ∀ k, k < ct D 0 → (∃ l, D 3 k = nI l ∧ 1 ≤ l ∧ l ≤ 30) ∧ S (8 + k) = D 3 k ∧ wr (N 2 (0 * 12 + k)) (M (0 + k))
def d1 (D : m_V) (N : m_L) (S : Nat → Int32) (M : Nat → Int64) : Prop := ∀ k, k < ct D 1 → (∃ c, D 4 k = nI c ∧ c < ct D 0) ∧ S (20 + k) = D 4 k ∧ wr (N 2 (1 * 12 + k)) (M (12 + k))
def d2 (D : m_V) (S : Nat → Int32) : Prop := ∀ k, k < ct D 2 → ((∃ a b, D 5 k = nI a ∧ a < ct D 0 ∧ D 6 k = nI b ∧ b < ct D 0 ∧ ¬ a = b) ∧ (D 7 k = -1 ∨ ∃ c, D 7 k = nI c ∧ c < ct D 1) ∧ (D 8 k = 0 ∨ D 8 k = 1)) ∧ (S (26 + k) = D 5 k ∧ S (42 + k) = D 6 k ∧ S (58 + k) = D 7 k + 1 ∧ S (74 + k) = D 8 k) ∧ ∀ j, j < ct D 2 → (D 5 j = D 5 k ∧ D 6 j = D 6 k ∨ D 5 j = D 6 k ∧ D 6 j = D 5 k) → j = k
def d3 (D : m_V) (N : m_L) (S : Nat → Int32) (M : Nat → Int64) : Prop := ∀ g, g < ct D 3 → ((∃ c, D 9 g = nI c ∧ c < ct D 0) ∧ (D 10 g = 0 ∨ D 10 g = 1)) ∧ (S (90 + g) = D 9 g ∧ S (98 + g) = D 10 g) ∧ (∀ g', g' < ct D 3 → D 9 g' = D 9 g → D 10 g' = D 10 g → g' = g) ∧ wr (N 2 (3 * 12 + g)) (M (18 + g))
def d4a (D : m_V) (r : Nat) : Prop := (∃ g, D 11 r = nI g ∧ g < ct D 3) ∧ (∃ m, D 12 r = nI m ∧ m ≤ 6 ∧ (∀ k, k < m → ∃ c, D 13 (r * 6 + k) = nI c ∧ c < ct D 0) ∧ D 14 r = p_secs D r m) ∧ lowB (D 15 r) (ct D 1) ∧ lowB (D 16 r) (ct D 1) ∧ lowB (D 17 r) (ct D 4) ∧ bt (D 17 r) r = false
def d4b (D : m_V) (S : Nat → Int32) (r : Nat) : Prop := S (106 + r) = D 11 r ∧ S (116 + r) = D 12 r ∧ (∀ k, k < (D 12 r).toNatClampNeg → S (126 + 6 * r + k) = D 13 (r * 6 + k)) ∧ S (186 + r) = D 15 r ∧ S (196 + r) = D 16 r ∧ S (206 + r) = D 17 r
def d4 (D : m_V) (N : m_L) (S : Nat → Int32) (M : Nat → Int64) : Prop := (∀ r, r < ct D 4 → d4a D r ∧ d4b D S r ∧ wr (N 2 (4 * 12 + r)) (M (26 + r))) ∧ wfK D ∧ ∀ r, ct D 4 ≤ r → r < 10 → S (116 + r) = 0 ∧ S (186 + r) = 0 ∧ S (196 + r) = 0 ∧ S (206 + r) = 0
def d6 (D : m_V) (N : m_L) (S : Nat → Int32) (M : Nat → Int64) : Prop := ∀ t, t < ct D 6 → ((∃ c, D 19 t = nI c ∧ c < ct D 0) ∧ (D 20 t = 0 ∨ D 20 t = 1)) ∧ (S (216 + t) = D 19 t ∧ S (221 + t) = D 20 t) ∧ wr (N 2 (6 * 12 + t)) (M (36 + t))
def dc (p : Nat) (D : m_V) (S : Nat → Int32) : Prop := okP D ∧ (∀ k, k < 8 → S k = D 1 k) ∧ (∃ n, D 1 5 = nI n ∧ 2 * n ≤ p) ∧ ∃ n, D 1 7 = nI n ∧ 1 ≤ n ∧ n ≤ 30
/-- the draft, told in both; p: how much was read -/
def DR (p : Nat) (D : m_V) (N : m_L) (S : Nat → Int32) (M : Nat → Int64) : Prop := dc p D S ∧ d0 D N S M ∧ d1 D N S M ∧ d2 D S ∧ d3 D N S M ∧ d4 D N S M ∧ d6 D N S M
theorem d0.of (h : d0 D N S M) (w : ct D 0 ≤ 12) (c0 : ct D' 0 = ct D 0) (r3 : D' 3 = D 3) (hN : ∀ j, 0 ≤ j → j < 12 → N' 2 j = N 2 j) (hS : ∀ j, 8 ≤ j → j < 20 → S' j = S j) (hM : ∀ j, j < 12 → M' j = M j) : d0 D' N' S' M' := fun k hk => by
  rw [c0] at hk
  rw [r3, hS _ (by omega) (by omega), hN _ (by omega) (by omega), hM _ (by omega)]
  exact h k hk
theorem d1.of (h : d1 D N S M) (w : ct D 1 ≤ 6) (c1 : ct D' 1 = ct D 1) (c0 : ct D 0 ≤ ct D' 0) (r4 : D' 4 = D 4) (hN : ∀ j, 12 ≤ j → j < 24 → N' 2 j = N 2 j) (hS : ∀ j, 20 ≤ j → j < 26 → S' j = S j) (hM : ∀ j, 12 ≤ j → j < 18 → M' j = M j) : d1 D' N' S' M' := fun k hk => by
  rw [c1] at hk
  rw [r4, hS _ (by omega) (by omega), hN _ (by omega) (by omega), hM _ (by omega) (by omega)]
  obtain ⟨⟨c, e, hc⟩, h2⟩ := h k hk
  exact ⟨⟨c, e, by omega⟩, h2⟩
theorem d2.of (h : d2 D S) (w : ct D 2 ≤ 16) (c2 : ct D' 2 = ct D 2) (c0 : ct D 0 ≤ ct D' 0) (c1 : ct D 1 ≤ ct D' 1) (r5 : D' 5 = D 5) (r6 : D' 6 = D 6) (r7 : D' 7 = D 7) (r8 : D' 8 = D 8) (hS : ∀ j, 26 ≤ j → j < 90 → S' j = S j) : d2 D' S' := fun k hk => by
  rw [c2] at hk ⊢
  rw [r5, r6, r7, r8, hS _ (by omega) (by omega), hS _ (by omega) (by omega), hS _ (by omega) (by omega), hS _ (by omega) (by omega)]
  obtain ⟨⟨⟨a, b, ea, ha, eb, hb, ne⟩, h7, h8⟩, h2⟩ := h k hk
  refine ⟨⟨⟨a, b, ea, by omega, eb, by omega, ne⟩, ?_, h8⟩, h2⟩
  rcases h7 with e | ⟨c, e, hc⟩
  · exact Or.inl e
  · exact Or.inr ⟨c, e, by omega⟩
theorem d3.of (h : d3 D N S M) (w : ct D 3 ≤ 8) (c3 : ct D' 3 = ct D 3) (c0 : ct D 0 ≤ ct D' 0) (r9 : D' 9 = D 9) (r10 : D' 10 = D 10) (hN : ∀ j, 36 ≤ j → j < 48 → N' 2 j = N 2 j) (hS : ∀ j, 90 ≤ j → j < 106 → S' j = S j) (hM : ∀ j, 18 ≤ j → j < 26 → M' j = M j) : d3 D' N' S' M' := fun k hk => by
  rw [c3] at hk ⊢
  rw [r9, r10, hS _ (by omega) (by omega), hS _ (by omega) (by omega), hN _ (by omega) (by omega), hM _ (by omega) (by omega)]
  obtain ⟨⟨⟨c, e, hc⟩, h1⟩, h2⟩ := h k hk
  exact ⟨⟨⟨c, e, by omega⟩, h1⟩, h2⟩
theorem d6.of (h : d6 D N S M) (w : ct D 6 ≤ 5) (c6 : ct D' 6 = ct D 6) (c0 : ct D 0 ≤ ct D' 0) (r19 : D' 19 = D 19) (r20 : D' 20 = D 20) (hN : ∀ j, 72 ≤ j → j < 84 → N' 2 j = N 2 j) (hS : ∀ j, 216 ≤ j → j < 226 → S' j = S j) (hM : ∀ j, 36 ≤ j → j < 41 → M' j = M j) : d6 D' N' S' M' := fun k hk => by
  rw [c6] at hk
  rw [r19, r20, hS _ (by omega) (by omega), hS _ (by omega) (by omega), hN _ (by omega) (by omega), hM _ (by omega) (by omega)]
  obtain ⟨⟨⟨c, e, hc⟩, h1⟩, h2⟩ := h k hk
  exact ⟨⟨⟨c, e, by omega⟩, h1⟩, h2⟩
theorem secs_row {r m : Nat} (h : ∀ k, k < m → D' 13 (r * 6 + k) = D 13 (r * 6 + k)) : p_secs D' r m = p_secs D r m := lo_congr m (fun k x hk => by rw [h k hk])
theorem d4a.of {r : Nat} (h : d4a D r) (c4 : ct D 4 ≤ ct D' 4) (c0 : ct D 0 ≤ ct D' 0) (c1 : ct D 1 ≤ ct D' 1) (c3 : ct D 3 ≤ ct D' 3) (r11 : D' 11 r = D 11 r) (r12 : D' 12 r = D 12 r) (r13 : ∀ k, k < 6 → D' 13 (r * 6 + k) = D 13 (r * 6 + k)) (r14 : D' 14 r = D 14 r) (r15 : D' 15 r = D 15 r) (r16 : D' 16 r = D 16 r) (r17 : D' 17 r = D 17 r) : d4a D' r := by
  obtain ⟨⟨g, e1, hg⟩, ⟨m, e2, hm, h3, h4⟩, h5, h6, h7, h8⟩ := h
  refine ⟨⟨g, by rw [r11]; exact e1, by omega⟩, ⟨m, by rw [r12]; exact e2, hm, fun k hk => ?_, ?_⟩, ?_, ?_, ?_, by rw [r17]; exact h8⟩
  · obtain ⟨c, e, hc⟩ := h3 k hk
    exact ⟨c, by rw [r13 k (by omega)]; exact e, by omega⟩
  · rw [r14, secs_row (fun k hk => r13 k (by omega))]; exact h4
  · rw [r15]; exact h5.mono c1
  · rw [r16]; exact h6.mono c1
  · rw [r17]; exact h7.mono c4
theorem d4b.of {r : Nat} (h : d4b D S r) (hr : r < 10) (hm : (D 12 r).toNatClampNeg ≤ 6) (r11 : D' 11 r = D 11 r) (r12 : D' 12 r = D 12 r) (r13 : ∀ k, k < 6 → D' 13 (r * 6 + k) = D 13 (r * 6 + k)) (r15 : D' 15 r = D 15 r) (r16 : D' 16 r = D 16 r) (r17 : D' 17 r = D 17 r) (hS : ∀ j, j = 106 + r ∨ j = 116 + r ∨ (126 + 6 * r ≤ j ∧ j < 126 + 6 * r + 6) ∨ j = 186 + r ∨ j = 196 + r ∨ j = 206 + r → S' j = S j) : d4b D' S' r := by
  obtain ⟨h1, h2, h3, h4, h5, h6⟩ := h
  refine ⟨?_, ?_, fun k hk => ?_, ?_, ?_, ?_⟩
  · rw [hS _ (by omega), r11]; exact h1
  · rw [hS _ (by omega), r12]; exact h2
  · rw [r12] at hk
    rw [hS _ (by omega), r13 k (by omega)]; exact h3 k hk
  · rw [hS _ (by omega), r15]; exact h4
  · rw [hS _ (by omega), r16]; exact h5
  · rw [hS _ (by omega), r17]; exact h6
theorem d4a.m6 {r : Nat} (h : d4a D r) : (D 12 r).toNatClampNeg ≤ 6 := by
  obtain ⟨-, ⟨m, e2, hm, -⟩, -⟩ := h
  rw [e2, nI_clamp (by omega)]; exact hm
theorem d4.of (h : d4 D N S M) (w : ct D 4 ≤ 10) (c4 : ct D' 4 = ct D 4) (c0 : ct D 0 ≤ ct D' 0) (c1 : ct D 1 ≤ ct D' 1) (c3 : ct D 3 ≤ ct D' 3) (rr : ∀ j, 11 ≤ j → j ≤ 17 → D' j = D j) (hN : ∀ j, 48 ≤ j → j < 60 → N' 2 j = N 2 j) (hS : ∀ j, 106 ≤ j → j < 216 → S' j = S j) (hM : ∀ j, 26 ≤ j → j < 36 → M' j = M j) : d4 D' N' S' M' := by
  obtain ⟨h1, h2, h3⟩ := h
  refine ⟨fun r hr => ?_, fun r q hr hq => ?_, fun r hr hr2 => ?_⟩
  · rw [c4] at hr
    obtain ⟨a, b, c⟩ := h1 r hr
    refine ⟨a.of (by omega) c0 c1 c3 (by rw [rr 11 (by omega) (by omega)]) (by rw [rr 12 (by omega) (by omega)]) (fun k hk => by rw [rr 13 (by omega) (by omega)]) (by rw [rr 14 (by omega) (by omega)]) (by rw [rr 15 (by omega) (by omega)]) (by rw [rr 16 (by omega) (by omega)]) (by rw [rr 17 (by omega) (by omega)]), b.of (by omega) a.m6 (by rw [rr 11 (by omega) (by omega)]) (by rw [rr 12 (by omega) (by omega)]) (fun k hk => by rw [rr 13 (by omega) (by omega)]) (by rw [rr 15 (by omega) (by omega)]) (by rw [rr 16 (by omega) (by omega)]) (by rw [rr 17 (by omega) (by omega)]) (fun j hj => hS j (by omega) (by omega)), ?_⟩
    rw [hN _ (by omega) (by omega), hM _ (by omega) (by omega)]
    exact c
  · rw [c4] at hr hq
    rw [rr 17 (by omega) (by omega)]
    exact h2 r q hr hq
  · rw [c4] at hr
    rw [hS _ (by omega) (by omega), hS _ (by omega) (by omega), hS _ (by omega) (by omega), hS _ (by omega) (by omega)]
    exact h3 r hr hr2
theorem dc.p {p p' : Nat} (h : dc p D S) (hp : p ≤ p') : dc p' D S := by
  obtain ⟨a, b, ⟨n, e, hn⟩, c⟩ := h
  exact ⟨a, b, ⟨n, e, by omega⟩, c⟩
theorem DR.p {p p' : Nat} (h : DR p D N S M) (hp : p ≤ p') : DR p' D N S M := ⟨h.1.p hp, h.2⟩
theorem okP.bd (h : okP D) : ct D 0 ≤ 12 ∧ ct D 1 ≤ 6 ∧ ct D 2 ≤ 16 ∧ ct D 3 ≤ 8 ∧ ct D 4 ≤ 10 ∧ ct D 6 ≤ 5 := ⟨h.c0.2, h.c1.2, h.c2.2, h.c3.2, h.c4.2, h.c6.2⟩
/-- a count goes up by one -/
theorem okP_add {s c : Nat} (h : okP D) (hs : s = 0 ∧ c < 12 ∨ s = 1 ∧ c < 6 ∨ s = 2 ∧ c < 16 ∨ s = 3 ∧ c < 8 ∨ s = 4 ∧ c < 10 ∨ s = 6 ∧ c < 5) (e1 : D' 1 s = nI (c + 1)) (e2 : ∀ k, ¬ k = s → D' 1 k = D 1 k) : okP D' ∧ ct D' s = c + 1 ∧ ∀ k, ¬ k = s → ct D' k = ct D k := by
  have f1 : ct D' s = c + 1 := ct_1 e1 (by omega)
  have f2 : ∀ k, ¬ k = s → ct D' k = ct D k := fun k hk => by unfold ct; rw [e2 k hk]
  have one : ∀ k m, (D 1 k = nI (ct D k) ∧ ct D k ≤ m) → (k = s → c < m) → D' 1 k = nI (ct D' k) ∧ ct D' k ≤ m := fun k m hk hm => by
    by_cases e : k = s
    · subst e; rw [f1, e1]; exact ⟨rfl, hm rfl⟩
    · rw [f2 k e, e2 k e]; exact hk
  exact ⟨⟨one 0 12 h.c0 (by omega), one 1 6 h.c1 (by omega), one 2 16 h.c2 (by omega), one 3 8 h.c3 (by omega), one 4 10 h.c4 (by omega), one 6 5 h.c6 (by omega)⟩, f1, f2⟩
theorem dc_add {s c p : Nat} (h : dc p D S) (hs : s = 0 ∧ c < 12 ∨ s = 1 ∧ c < 6 ∨ s = 2 ∧ c < 16 ∨ s = 3 ∧ c < 8 ∨ s = 4 ∧ c < 10 ∨ s = 6 ∧ c < 5) (e1 : D' 1 s = nI (c + 1)) (e2 : ∀ k, ¬ k = s → D' 1 k = D 1 k) (e3 : S' s = nI (c + 1)) (e4 : ∀ k, k < 8 → ¬ k = s → S' k = S k) : dc p D' S' := by
  obtain ⟨a, b, ⟨n, e, hn⟩, ⟨l, el, hl⟩⟩ := h
  refine ⟨(okP_add a hs e1 e2).1, fun k hk => ?_, ⟨n, by rw [e2 5 (by omega)]; exact e, hn⟩, ⟨l, by rw [e2 7 (by omega)]; exact el, hl⟩⟩
  by_cases q : k = s
  · subst q; rw [e3, e1]
  · rw [e4 k hk q, e2 k q]; exact b k hk
theorem DR.nm {p : Nat} (h : DR p D N S M) : rN D N M := ⟨fun i hi => (h.2.1 i hi).2.2, fun i hi => (h.2.2.1 i hi).2.2, fun i hi => (h.2.2.2.2.1 i hi).2.2.2, fun i hi => (h.2.2.2.2.2.1.1 i hi).2.2, fun i hi => (h.2.2.2.2.2.2 i hi).2.2⟩
end DF
section LR
variable {X Y X1 Y1 X0 Y0 : X_} {n p : Nat}
def LF (X0 X : X_) : Prop := (∀ a, ¬ a = 1 → ¬ (25 ≤ a ∧ a < 47) → X.1 a = X0.1 a) ∧ (∀ a, ¬ a = 1 → ¬ (25 ≤ a ∧ a < 47) → X.2.1 a = X0.2.1 a) ∧ X.2.2 = X0.2.2
def LG (Y0 Y : X_) : Prop := (∀ a, ¬ a = 218 → ¬ a = 221 → Y.1 a = Y0.1 a) ∧ (∀ k, k < 3 ∨ 20 < k → Y.1 218 k = Y0.1 218 k) ∧ (∀ a k, ¬ a = 218 → ¬ (a = 223 ∧ 41 ≤ k) → Y.2.1 a k = Y0.2.1 a k) ∧ Y.2.2 = Y0.2.2
theorem LF.k (h : LF X0 X) (k : kS X X1) : LF X0 X1 := ⟨fun a h1 h2 => (k.1 a h1).trans (h.1 a h1 h2), fun a h1 h2 => (funext (fun j => k.2.2.1 a j (fun z => h1 z.1))).trans (h.2.1 a h1 h2), k.2.2.2.trans h.2.2⟩
theorem LG.g (h : LG Y0 Y) (g : gS Y Y1) : LG Y0 Y1 := ⟨fun a h1 h2 => (g.1 a h1).trans (h.1 a h1 h2), fun k hk => (g.2.1 k (by omega) (by omega)).trans (h.2.1 k hk), fun a k h1 h2 => (g.2.2.1 a k (fun z => h1 z.1)).trans (h.2.2.1 a k h1 h2), g.2.2.2.trans h.2.2.2⟩
theorem LF.i {a k : Nat} {v : Int32} (h : LF X0 X) (ha : a = 1 ∨ (25 ≤ a ∧ a < 47)) : LF X0 (sI X a k v) := ⟨fun b h1 h2 => (sI_row (by omega)).trans (h.1 b h1 h2), fun b h1 h2 => h.2.1 b h1 h2, h.2.2⟩
theorem LF.bk {V : m_V} {L : m_L} (h : LF X0 X) : LF X0 (bk X 26 21 V L) := ⟨fun b h1 h2 => (bk_row (by omega)).trans (h.1 b h1 h2), fun b h1 h2 => (bk_rowJ (by omega)).trans (h.2.1 b h1 h2), h.2.2⟩
theorem LG.i {k : Nat} {v : Int32} (h : LG Y0 Y) (hk : 3 ≤ k ∧ k ≤ 20) : LG Y0 (sI Y 218 k v) := ⟨fun b h1 h2 => (sI_row h1).trans (h.1 b h1 h2), fun j hj => (sI_ne (by omega)).trans (h.2.1 j hj), h.2.2.1, h.2.2.2⟩
theorem LG.h {k : Nat} {v : Int32} (h : LG Y0 Y) : LG Y0 (sI Y 221 k v) := ⟨fun b h1 h2 => (sI_row h2).trans (h.1 b h1 h2), fun j hj => (sI_ne (by omega)).trans (h.2.1 j hj), h.2.2.1, h.2.2.2⟩
theorem LG.j {k : Nat} {v : Int64} (h : LG Y0 Y) (hk : 41 ≤ k) : LG Y0 (sJ Y 223 k v) := ⟨h.1, h.2.1, fun a j h1 h2 => by
  rw [sJ_j, if_neg (by omega)]; exact h.2.2.1 a j h1 h2, h.2.2.2⟩
/-- both read on: n bytes, p of them behind -/
def LR (X0 Y0 : X_) (n p : Nat) (X Y : X_) : Prop := (TB X Y n 1400 p ∧ X.1 1 9 = 0 ∧ Y.1 218 15 = 0) ∧ TK X Y ∧ LF X0 X ∧ LG Y0 Y ∧ DR p (bP X 26) (bPJ X 26) (Y.1 221) (fun j => Y.2.1 223 (41 + j)) ∧ (X.1 25 2 = Y.1 218 20 ∧ (Y.1 218 20 = 0 ∨ Y.1 218 20 = 1)) ∧ X.1 25 1 = Y.1 218 19
/-- both have failed alike -/
def LX (X0 Y0 X1 Y1 : X_) : Prop := LF X0 X1 ∧ LG Y0 Y1 ∧ X1.1 1 9 = Y1.1 218 15 ∧ X1.1 1 10 = Y1.1 218 16
theorem LX.of (h : FL X Y X1 Y1) (a : LF X0 X) (b : LG Y0 Y) : LX X0 Y0 X1 Y1 := ⟨a.k h.1, b.g h.2.1, h.2.2⟩
/-- a line read by both -/
def LE (X0 Y0 : X_) (n p : Nat) (X Y : X_) (f g : RM Int32) : Prop := ∃ v X1 Y1, f X = some (v, X1) ∧ g Y = some (v, Y1) ∧ ((v = 0 ∧ LX X0 Y0 X1 Y1) ∨ (v = 1 ∧ X1.1 25 1 = X.1 25 1 ∧ ∃ p', LR X0 Y0 n p' X1 Y1 ∧ p ≤ p' ∧ (X1.1 1 4 = 3 → ∃ a, X1.1 1 5 = nI a ∧ p ≤ a ∧ a < p' ∧ a < 1400)))
theorem LE.bad {f g : RM Int32} (h1 : f X = some (0, X1)) (h2 : g Y = some (0, Y1)) (h : LX X0 Y0 X1 Y1) : LE X0 Y0 n p X Y f g := ⟨0, X1, Y1, h1, h2, Or.inl ⟨rfl, h⟩⟩
theorem TB.x {m : Nat} (h : TB X Y n m p) (h1 : X1.1 1 = X.1 1) (h2 : X1.1 2 = X.1 2) (h3 : X1.2.1 3 = X.2.1 3) : TB X1 Y n m p := by unfold TB; rw [h1, h2, h3]; exact h
theorem TB.y {m : Nat} (h : TB X Y n m p) (h1 : Y1.1 218 3 = Y.1 218 3) (h2 : Y1.1 218 4 = Y.1 218 4) (h3 : Y1.1 218 5 = Y.1 218 5) (h4 : Y1.1 219 = Y.1 219) (h5 : Y1.2.1 224 = Y.2.1 224) : TB X Y1 n m p := by unfold TB; rw [h1, h2, h3, h4, h5]; exact h
theorem TK.y (h : TK X Y) (h1 : Y1.1 218 11 = Y.1 218 11) (h2 : Y1.1 218 12 = Y.1 218 12) (h3 : Y1.1 218 14 = Y.1 218 14) (h4 : Y1.2.1 218 17 = Y.2.1 218 17) : TK X Y1 := by unfold TK; rw [h1, h2, h3, h4]; exact h
theorem kS.P (h : kS X X1) {q : Nat} (hq : 2 ≤ q) : bP X1 q = bP X q := bB_same (fun a h1 _ => h.1 a (by omega))
theorem kS.PJ (h : kS X X1) {q : Nat} (hq : 2 ≤ q) : bPJ X1 q = bPJ X q := bL_same (fun a h1 _ => funext (fun j => h.2.2.1 a j (by omega)))
/-- the next token, in the middle of a line -/
theorem r_nextM {m : Nat} (h : TB X Y n m p) : ∃ X1 Y1 p', fX10_next X = some ((), X1) ∧ fX12_next Y = some ((), Y1) ∧ TB X1 Y1 n m p' ∧ TK X1 Y1 ∧ kS X X1 ∧ gS Y Y1 ∧ Y1.1 218 18 = Y.1 218 18 ∧ p ≤ p' ∧ (X1.1 1 4 = 3 → ∃ a, X1.1 1 5 = nI a ∧ p ≤ a ∧ a < p' ∧ a < m) ∧ (X1.1 1 4 = 1 ∨ X1.1 1 4 = 2 → p < p') ∧ X1.1 1 9 = X.1 1 9 ∧ Y1.1 218 15 = Y.1 218 15 := by
  obtain ⟨X1, Y1, p', a1, a2, a3, a4, a5, a6, a7, a8, a9⟩ := r_next h
  exact ⟨X1, Y1, p', a1, a2, a3, a4, a5.k, a6.g, a6.2.1 18 (by decide) (by decide) (by decide) (by decide) (by decide), a7, a8, a9, a5.2.1 9 (by decide) (by decide) (by decide) (by decide) (by decide), a6.2.1 15 (by decide) (by decide) (by decide) (by decide) (by decide)⟩
/-- places of the draft -/
theorem bP_i {j k : Nat} {v : Int32} (hj : j < 21) : bP (sI X (26 + j) k v) 26 = u2 (bP X 26) j k v := by
  funext j' k'
  unfold bP bB u2
  dsimp only
  by_cases c : j' < 21
  · rw [if_pos c, if_pos c, sI_i]
    refine if_iff ⟨fun z => ⟨by omega, z.2⟩, fun z => ⟨by omega, z.2⟩⟩
  · rw [if_neg c, if_neg c, if_neg (by omega)]
theorem bPJ_i {a k : Nat} {v : Int32} {q : Nat} : bPJ (sI X a k v) q = bPJ X q := rfl
theorem bP_bk {V : m_V} {L : m_L} (h : ∀ j k, 21 ≤ j → V j k = 0) : bP (bk X 26 21 V L) 26 = V := by
  show bB 21 (bk X 26 21 V L) 26 = V
  rw [bB_bk]
  funext j k
  unfold trim
  by_cases c : j < 21
  · rw [if_pos c]
  · rw [if_neg c, h j k (by omega)]
theorem bPJ_bk {V : m_V} {L : m_L} (h : ∀ j k, 21 ≤ j → L j k = 0) : bPJ (bk X 26 21 V L) 26 = L := by
  show bL 21 (bk X 26 21 V L) 26 = L
  funext j k
  unfold bL
  by_cases c : j < 21
  · rw [if_pos c, bk_inJ c]
  · rw [if_neg c, h j k (by omega)]
/-- one more of a sort -/
theorem e_addOne {s c : Nat} {a : Int32} {x : Int64} (ha : a = nI s) (hs : s < 8) (hc : bP X 26 1 s = nI c) (h12 : c < 12) : ∃ X1, fX5_addOne 26 a x X = some (nI c, X1) ∧ X1 = bk X 26 21 (u2 (bP X 26) 1 s (nI (c + 1))) (u2l (bPJ X 26) 2 (s * 12 + c) x) ∧ bP X1 26 = u2 (bP X 26) 1 s (nI (c + 1)) ∧ bPJ X1 26 = u2l (bPJ X 26) 2 (s * 12 + c) x ∧ (∀ b, ¬ (26 ≤ b ∧ b < 47) → X1.1 b = X.1 b) ∧ (∀ b, ¬ (26 ≤ b ∧ b < 47) → X1.2.1 b = X.2.1 b) ∧ X1.2.2 = X.2.2 := by
  subst ha
  refine ⟨_, ?_, rfl, ?_, ?_, fun b hb => bk_row hb, fun b hb => bk_rowJ hb, rfl⟩
  · unfold fX5_addOne
    have e : (nI s).toNatClampNeg = s := nI_clamp (by omega)
    rw [gd_t (by rw [e, hc, nI_clamp (by omega)]; exact ⟨rfl, hs, rfl, h12⟩), e, hc, nI_clamp (by omega)]
  · exact bP_bk (fun j k hj => by rw [u2_ne (by omega)]; exact if_neg (by omega))
  · exact bPJ_bk (fun j k hj => by rw [u2l_ne (by omega)]; exact if_neg (by omega))
end LR
