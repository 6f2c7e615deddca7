/-! a sentence: what both hold while they read -/
section SE
variable {X Y X1 Y1 X0 Y0 : X_} {n p o m k dp : Nat} {wh : Int32} {π σ : List Int32}
def LFq (X0 X : X_) : Prop := (∀ a, ¬ a = 1 → ¬ (135 ≤ a ∧ a < 139) → X.1 a = X0.1 a) ∧ (∀ a, ¬ a = 1 → X.2.1 a = X0.2.1 a) ∧ X.2.2 = X0.2.2
def LGq (Y0 Y : X_) : Prop := (∀ a, ¬ a = 218 → ¬ a = 222 → ¬ a = 234 → Y.1 a = Y0.1 a) ∧ (∀ k, k < 3 ∨ (20 < k ∧ k < 42) ∨ 46 < k → Y.1 218 k = Y0.1 218 k) ∧ (∀ a, ¬ a = 218 → Y.2.1 a = Y0.2.1 a) ∧ Y.2.2 = Y0.2.2
theorem LFq.kk (h : LFq X0 X) (e : kS X X1) : LFq X0 X1 := ⟨fun a h1 h2 => (e.1 a h1).trans (h.1 a h1 h2), fun a h1 => (funext (fun j => e.2.2.1 a j (fun z => h1 z.1))).trans (h.2.1 a h1), e.2.2.2.trans h.2.2⟩
theorem LGq.g (h : LGq Y0 Y) (g : gS Y Y1) : LGq Y0 Y1 := ⟨fun a h1 h2 h3 => (g.1 a h1).trans (h.1 a h1 h2 h3), fun k hk => (g.2.1 k (by omega) (by omega)).trans (h.2.1 k hk), fun a h1 => (funext (fun j => g.2.2.1 a j (fun z => h1 z.1))).trans (h.2.2.1 a h1), g.2.2.2.trans h.2.2.2⟩
theorem LFq.i (h : LFq X0 X) {a j : Nat} {v : Int32} (ha : 135 ≤ a ∧ a < 139) : LFq X0 (sI X a j v) := ⟨fun b h1 h2 => (sI_row (by omega)).trans (h.1 b h1 h2), h.2.1, h.2.2⟩
theorem LGq.f (h : LGq Y0 Y) {j : Nat} {v : Int32} (hj : (3 ≤ j ∧ j ≤ 20) ∨ (42 ≤ j ∧ j ≤ 46)) : LGq Y0 (sI Y 218 j v) := ⟨fun b h1 h2 h3 => (sI_row h1).trans (h.1 b h1 h2 h3), fun q hq => (sI_ne (by omega)).trans (h.2.1 q hq), h.2.2.1, h.2.2.2⟩
theorem LGq.r (h : LGq Y0 Y) {a j : Nat} {v : Int32} (ha : a = 222 ∨ a = 234) : LGq Y0 (sI Y a j v) := ⟨fun b h1 h2 h3 => (sI_row (by omega)).trans (h.1 b h1 h2 h3), fun q hq => (sI_ne (by omega)).trans (h.2.1 q hq), h.2.2.1, h.2.2.2⟩
def LXq (X0 Y0 X1 Y1 : X_) : Prop := LFq X0 X1 ∧ LGq Y0 Y1 ∧ X1.1 1 9 = Y1.1 218 15 ∧ X1.1 1 10 = Y1.1 218 16
/-- the stack, its top first -/
def sk (f : Nat → Int32) : List Int32 → Prop
  | [] => True
  | a :: s => f s.length = a ∧ sk f s
theorem sk.up {f : Nat → Int32} {j : Nat} {v : Int32} : ∀ {s : List Int32}, sk f s → s.length ≤ j → sk (upS f j v) s := by
  intro s
  induction s with
  | nil => intro _ _; trivial
  | cons a s ih =>
    intro h hj
    rw [List.length_cons] at hj
    exact ⟨by rw [upS_ne (by omega)]; exact h.1, ih h.2 (by omega)⟩
def opw (a w : Int32) : Prop := (a = 20 ∧ w = 23) ∨ (a = 21 ∧ w = 22) ∨ (a = 22 ∧ w = 21)
/-- what the component has told already, the reference not yet -/
def pd (W U G : Nat → Int32) : Nat → List Int32 → Prop
  | _, [] => True
  | c, a :: s => opw a (W c) ∧ U c = 0 ∧ G c = 0 ∧ pd W U G (c + 1) s
theorem pd.app {W U G : Nat → Int32} {a : Int32} : ∀ {s : List Int32} {c : Nat}, pd W U G c s → opw a (W (c + s.length)) → U (c + s.length) = 0 → G (c + s.length) = 0 → pd W U G c (s ++ [a]) := by
  intro s
  induction s with
  | nil => intro c _ h1 h2 h3; exact ⟨h1, h2, h3, trivial⟩
  | cons b s ih =>
    intro c h h1 h2 h3
    rw [List.length_cons, show c + (s.length + 1) = c + 1 + s.length by omega] at h1 h2 h3
    exact ⟨h.1, h.2.1, h.2.2.1, ih h.2.2.2 h1 h2 h3⟩
theorem pd.up {W U G : Nat → Int32} {j : Nat} {x y z : Int32} : ∀ {s : List Int32} {c : Nat}, pd W U G c s → c + s.length ≤ j → pd (upS W j x) (upS U j y) (upS G j z) c s := by
  intro s
  induction s with
  | nil => intro c _ _; trivial
  | cons b s ih =>
    intro c h hj
    rw [List.length_cons] at hj
    exact ⟨by rw [upS_ne (by omega)]; exact h.1, by rw [upS_ne (by omega)]; exact h.2.1, by rw [upS_ne (by omega)]; exact h.2.2.1, ih h.2.2.2 (by omega)⟩
/-- how many stand on the stack of truths -/
def vd (w : Nat → Int32) (m k : Nat) : Prop := ∃ d : Nat → Nat, d 0 = 0 ∧ d m = k ∧ ∀ i, i < m → d i ≤ 20 ∧ ((w i = 23 ∧ 1 ≤ d i ∧ d (i + 1) = d i) ∨ ((w i = 21 ∨ w i = 22) ∧ 2 ≤ d i ∧ d (i + 1) + 1 = d i) ∨ (¬ w i = 21 ∧ ¬ w i = 22 ∧ ¬ w i = 23 ∧ d (i + 1) = d i + 1))
theorem vd.add {w : Nat → Int32} {m k k' : Nat} {x : Int32} (h : vd w m k) (hk : k ≤ 20) (hx : (x = 23 ∧ 1 ≤ k ∧ k' = k) ∨ ((x = 21 ∨ x = 22) ∧ 2 ≤ k ∧ k' + 1 = k) ∨ (¬ x = 21 ∧ ¬ x = 22 ∧ ¬ x = 23 ∧ k' = k + 1)) : vd (upS w m x) (m + 1) k' := by
  obtain ⟨d, d0, dm, dd⟩ := h
  refine ⟨fun i => if i = m + 1 then k' else d i, ?_, if_pos rfl, fun i hi => ?_⟩
  · show (if 0 = m + 1 then k' else d 0) = 0
    rw [if_neg (by omega)]; exact d0
  · have e1 : (if i = m + 1 then k' else d i) = d i := if_neg (by omega)
    by_cases c : i = m
    · subst c
      have e2 : (if i + 1 = i + 1 then k' else d (i + 1)) = k' := if_pos rfl
      dsimp only
      rw [e1, e2, upS_eq, dm]
      exact ⟨hk, hx⟩
    · have e2 : (if i + 1 = m + 1 then k' else d (i + 1)) = d (i + 1) := if_neg (by omega)
      dsimp only
      rw [e1, e2, upS_ne c]
      exact dd i (by omega)
/-- the steps that both have told -/
def cr (P : m_V) (W U G T : Nat → Int32) (c : Nat) : Prop := ∀ i, i < c → rQ1 P (W i) (U i) (G i) (T (3 * i)) (T (3 * i + 1)) (T (3 * i + 2))
def SQ (X0 Y0 : X_) (n p o m k dp : Nat) (wh : Int32) (π σ : List Int32) (X Y : X_) : Prop := (TB X Y n 200 p ∧ X.1 1 9 = 0 ∧ Y.1 218 15 = 0) ∧ (LFq X0 X ∧ LGq Y0 Y) ∧ ((X.1 135 1 = nI o ∧ Y.1 218 43 = nI o ∧ o ≤ 20) ∧ X.1 135 2 = nI m ∧ Y.1 218 42 = nI (m - π.length) ∧ π.length ≤ m ∧ m ≤ 40) ∧ (cr (bP X0 4) (X.1 136) (X.1 137) (X.1 138) (Y.1 222) (m - π.length) ∧ pd (X.1 136) (X.1 137) (X.1 138) (m - π.length) π ∧ vd (X.1 136) m k ∧ k ≤ o) ∧ (Y.1 218 44 = nI (π.length + σ.length) ∧ sk (Y.1 234) (π ++ σ) ∧ π.length + σ.length ≤ 40) ∧ Y.1 218 45 = nI dp ∧ Y.1 218 46 = wh
theorem SQ.b (h : SQ X0 Y0 n p o m k dp wh π σ X Y) : TB X Y n 200 p := h.1.1
theorem SQ.fail (h : SQ X0 Y0 n p o m k dp wh π σ X Y) (e : FL X Y X1 Y1) : LXq X0 Y0 X1 Y1 := ⟨h.2.1.1.kk e.1, h.2.1.2.g e.2.1, e.2.2⟩
theorem SQ.P (h : SQ X0 Y0 n p o m k dp wh π σ X Y) : bP X 4 = bP X0 4 ∧ bPJ X 4 = bPJ X0 4 := ⟨bB_same (fun a h1 h2 => h.2.1.1.1 a (by omega) (by omega)), bL_same (fun a h1 h2 => h.2.1.1.2.1 a (by omega))⟩
theorem SQ.S (h : SQ X0 Y0 n p o m k dp wh π σ X Y) : Y.1 220 = Y0.1 220 ∧ Y.2.1 223 = Y0.2.1 223 := ⟨h.2.1.2.1 220 (by decide) (by decide) (by decide), h.2.1.2.2.2.1 223 (by decide)⟩
/-- the text goes on, all else stays -/
theorem SQ.tx {p' : Nat} (h : SQ X0 Y0 n p o m k dp wh π σ X Y) (hB : TB X1 Y1 n 200 p') (h9 : X1.1 1 9 = X.1 1 9) (h15 : Y1.1 218 15 = Y.1 218 15) (a : kS X X1) (b : gS Y Y1) : SQ X0 Y0 n p' o m k dp wh π σ X1 Y1 := by
  obtain ⟨⟨-, f9, f15⟩, ⟨hF, hG⟩, ⟨⟨o1, o2, o3⟩, m1, m2, m3, m4⟩, ⟨c1, c2, c3, c4⟩, ⟨s1, s2, s3⟩, d1, d2⟩ := h
  unfold SQ
  rw [a.1 135 (by decide), a.1 136 (by decide), a.1 137 (by decide), a.1 138 (by decide), b.1 222 (by decide), b.1 234 (by decide), b.2.1 42 (by decide) (by omega), b.2.1 43 (by decide) (by omega), b.2.1 44 (by decide) (by omega), b.2.1 45 (by decide) (by omega), b.2.1 46 (by decide) (by omega)]
  exact ⟨⟨hB, by rw [h9]; exact f9, by rw [h15]; exact f15⟩, ⟨hF.kk a, hG.g b⟩, ⟨⟨o1, o2, o3⟩, m1, m2, m3, m4⟩, ⟨c1, c2, c3, c4⟩, ⟨s1, s2, s3⟩, d1, d2⟩
theorem SQ.next (h : SQ X0 Y0 n p o m k dp wh π σ X Y) : ∃ X1 Y1 p', fX10_next X = some ((), X1) ∧ fX12_next Y = some ((), Y1) ∧ SQ X0 Y0 n p' o m k dp wh π σ X1 Y1 ∧ TK X1 Y1 ∧ Y1.1 218 18 = Y.1 218 18 := by
  obtain ⟨X1, Y1, p', a1, a2, a3, a4, a5, a6, a7, a8, a9, a10, a11, a12⟩ := r_nextM h.b
  exact ⟨X1, Y1, p', a1, a2, h.tx a3 a11 a12 a5 a6, a4, a7⟩
theorem SQ.got (h : SQ X0 Y0 n p o m k dp wh π σ X Y) (v : Int32) : SQ X0 Y0 n p o m k dp wh π σ X (sI Y 218 18 v) := h.tx (h.b.y (sI_ne (by omega)) (sI_ne (by omega)) (sI_ne (by omega)) (sI_row (by decide)) rfl) rfl (sI_ne (by omega)) (kS.refl _) (gS.i (by omega))
theorem SQ.ones (h : SQ X0 Y0 n p o m k dp wh π σ X Y) (ho : o < 20) : SQ X0 Y0 n p (o + 1) m k dp wh π σ (sI X 135 1 (nI (o + 1))) (sI Y 218 43 (nI (o + 1))) := by
  obtain ⟨⟨hB, f9, f15⟩, ⟨hF, hG⟩, ⟨⟨o1, o2, o3⟩, m1, m2, m3, m4⟩, ⟨c1, c2, c3, c4⟩, ⟨s1, s2, s3⟩, d1, d2⟩ := h
  refine ⟨⟨(hB.x (sI_row (by decide)) (sI_row (by decide)) rfl).y (sI_ne (by omega)) (sI_ne (by omega)) (sI_ne (by omega)) (sI_row (by decide)) rfl, by rw [sI_ne (by omega)]; exact f9, by rw [sI_ne (by omega)]; exact f15⟩, ⟨hF.i (by omega), hG.f (by omega)⟩, ⟨⟨sI_eq, sI_eq, by omega⟩, by rw [sI_ne (by omega)]; exact m1, by rw [sI_ne (by omega)]; exact m2, m3, m4⟩, ?_, ⟨by rw [sI_ne (by omega)]; exact s1, by rw [sI_row (by decide)]; exact s2, s3⟩, by rw [sI_ne (by omega)]; exact d1, by rw [sI_ne (by omega)]; exact d2⟩
  rw [sI_row (by decide), sI_row (by decide), sI_row (by decide), sI_row (by decide)]
  exact ⟨c1, c2, c3, by omega⟩
theorem SQ.setw (h : SQ X0 Y0 n p o m k dp wh π σ X Y) (v : Int32) : SQ X0 Y0 n p o m k dp v π σ X (sI Y 218 46 v) := by
  obtain ⟨⟨hB, f9, f15⟩, ⟨hF, hG⟩, ⟨⟨o1, o2, o3⟩, m1, m2, m3, m4⟩, ⟨c1, c2, c3, c4⟩, ⟨s1, s2, s3⟩, d1, d2⟩ := h
  refine ⟨⟨hB.y (sI_ne (by omega)) (sI_ne (by omega)) (sI_ne (by omega)) (sI_row (by decide)) rfl, f9, by rw [sI_ne (by omega)]; exact f15⟩, ⟨hF, hG.f (by omega)⟩, ⟨⟨o1, by rw [sI_ne (by omega)]; exact o2, o3⟩, m1, by rw [sI_ne (by omega)]; exact m2, m3, m4⟩, ?_, ⟨by rw [sI_ne (by omega)]; exact s1, by rw [sI_row (by decide)]; exact s2, s3⟩, by rw [sI_ne (by omega)]; exact d1, sI_eq⟩
  rw [sI_row (by decide)]
  exact ⟨c1, c2, c3, c4⟩
/-- something is laid upon the stack -/
theorem SQ.push (h : SQ X0 Y0 n p o m k dp wh [] σ X Y) (a : Int32) (hs : σ.length < 40) : SQ X0 Y0 n p o m k dp wh [] (a :: σ) X (sI (sI Y 234 σ.length a) 218 44 (nI (σ.length + 1))) := by
  obtain ⟨⟨hB, f9, f15⟩, ⟨hF, hG⟩, ⟨⟨o1, o2, o3⟩, m1, m2, m3, m4⟩, ⟨c1, c2, c3, c4⟩, ⟨s1, s2, s3⟩, d1, d2⟩ := h
  have r : ∀ b, ¬ b = 218 → ¬ b = 234 → (sI (sI Y 234 σ.length a) 218 44 (nI (σ.length + 1))).1 b = Y.1 b := fun b h1 h2 => by rw [sI_row h1, sI_row h2]
  have f : ∀ j, ¬ j = 44 → (sI (sI Y 234 σ.length a) 218 44 (nI (σ.length + 1))).1 218 j = Y.1 218 j := fun j hj => by rw [sI_ne (by omega), sI_row (by decide)]
  refine ⟨⟨hB.y (f 3 (by decide)) (f 4 (by decide)) (f 5 (by decide)) (r 219 (by decide) (by decide)) rfl, f9, by rw [f 15 (by decide)]; exact f15⟩, ⟨hF, (hG.r (Or.inr rfl)).f (by omega)⟩, ⟨⟨o1, by rw [f 43 (by decide)]; exact o2, o3⟩, m1, by rw [f 42 (by decide)]; exact m2, m3, m4⟩, ?_, ⟨?_, ?_, ?_⟩, by rw [f 45 (by decide)]; exact d1, by rw [f 46 (by decide)]; exact d2⟩
  · rw [r 222 (by decide) (by decide)]
    exact ⟨c1, c2, c3, c4⟩
  · rw [sI_eq, List.length_nil, Nat.zero_add, List.length_cons]
  · rw [sI_row (by decide), sI_up]
    exact ⟨upS_eq, s2.up (Nat.le_refl _)⟩
  · rw [List.length_nil, Nat.zero_add, List.length_cons]; omega
theorem SQ.deep (h : SQ X0 Y0 n p o m k dp wh π σ X Y) (d : Nat) : SQ X0 Y0 n p o m k d wh π σ X (sI Y 218 45 (nI d)) := by
  obtain ⟨⟨hB, f9, f15⟩, ⟨hF, hG⟩, ⟨⟨o1, o2, o3⟩, m1, m2, m3, m4⟩, ⟨c1, c2, c3, c4⟩, ⟨s1, s2, s3⟩, d1, d2⟩ := h
  refine ⟨⟨hB.y (sI_ne (by omega)) (sI_ne (by omega)) (sI_ne (by omega)) (sI_row (by decide)) rfl, f9, by rw [sI_ne (by omega)]; exact f15⟩, ⟨hF, hG.f (by omega)⟩, ⟨⟨o1, by rw [sI_ne (by omega)]; exact o2, o3⟩, m1, by rw [sI_ne (by omega)]; exact m2, m3, m4⟩, ?_, ⟨by rw [sI_ne (by omega)]; exact s1, by rw [sI_row (by decide)]; exact s2, s3⟩, sI_eq, by rw [sI_ne (by omega)]; exact d2⟩
  rw [sI_row (by decide)]
  exact ⟨c1, c2, c3, c4⟩
/-- taken from the stack (a bracket) -/
theorem SQ.pop {a : Int32} (h : SQ X0 Y0 n p o m k dp wh [] (a :: σ) X Y) : SQ X0 Y0 n p o m k dp wh [] σ X (sI Y 218 44 (nI σ.length)) := by
  obtain ⟨⟨hB, f9, f15⟩, ⟨hF, hG⟩, ⟨⟨o1, o2, o3⟩, m1, m2, m3, m4⟩, ⟨c1, c2, c3, c4⟩, ⟨s1, s2, s3⟩, d1, d2⟩ := h
  rw [List.length_nil, Nat.zero_add, List.length_cons] at s3
  refine ⟨⟨hB.y (sI_ne (by omega)) (sI_ne (by omega)) (sI_ne (by omega)) (sI_row (by decide)) rfl, f9, by rw [sI_ne (by omega)]; exact f15⟩, ⟨hF, hG.f (by omega)⟩, ⟨⟨o1, by rw [sI_ne (by omega)]; exact o2, o3⟩, m1, by rw [sI_ne (by omega)]; exact m2, m3, m4⟩, ?_, ⟨by rw [sI_eq, List.length_nil, Nat.zero_add], by rw [sI_row (by decide)]; exact s2.2, by rw [List.length_nil, Nat.zero_add]; omega⟩, by rw [sI_ne (by omega)]; exact d1, by rw [sI_ne (by omega)]; exact d2⟩
  rw [sI_row (by decide)]
  exact ⟨c1, c2, c3, c4⟩
/-- the component tells what stands on the stack behind what is pending -/
theorem SQ.tell {a w : Int32} {k' : Nat} (h : SQ X0 Y0 n p o m k dp wh π (a :: σ) X Y) (hm : m < 40) (ha : opw a w) (hk : (w = 23 ∧ 1 ≤ k ∧ k' = k) ∨ ((w = 21 ∨ w = 22) ∧ 2 ≤ k ∧ k' + 1 = k)) : ∃ X1, fX7_addStep w 0 0 X = some ((), X1) ∧ SQ X0 Y0 n p o (m + 1) k' dp wh (π ++ [a]) σ X1 Y ∧ kS X X1 = kS X X1 ∧ X1.1 1 = X.1 1 ∧ X1.2 = X.2 := by
  obtain ⟨⟨hB, f9, f15⟩, ⟨hF, hG⟩, ⟨⟨o1, o2, o3⟩, m1, m2, m3, m4⟩, ⟨c1, c2, c3, c4⟩, ⟨s1, s2, s3⟩, d1, d2⟩ := h
  generalize hX1 : sI (sI (sI (sI X 136 m w) 137 m 0) 138 m 0) 135 2 (nI (m + 1)) = X1
  have ad : fX7_addStep w 0 0 X = some ((), X1) := by
    unfold fX7_addStep
    rw [gI_e, m1, it_f (nI_ge hm (by decide)), gI_e, m1, wA_n hm (by decide), gI_e, sI_row (by decide), m1, wA_n hm (by decide), gI_e, sI_row (by decide), sI_row (by decide), m1, wA_n hm (by decide), gI_e, sI_row (by decide), sI_row (by decide), sI_row (by decide), m1, pI_e, nI_1, hX1]; rfl
  have r : ∀ b, ¬ (135 ≤ b ∧ b < 139) → X1.1 b = X.1 b := fun b hb => by rw [← hX1, sI_row (by omega), sI_row (by omega), sI_row (by omega), sI_row (by omega)]
  have r6 : X1.1 136 = upS (X.1 136) m w := by rw [← hX1, sI_row (by decide), sI_row (by decide), sI_row (by decide), sI_up]
  have r7 : X1.1 137 = upS (X.1 137) m 0 := by rw [← hX1, sI_row (by decide), sI_row (by decide), sI_up, sI_row (by decide)]
  have r8 : X1.1 138 = upS (X.1 138) m 0 := by rw [← hX1, sI_row (by decide), sI_up, sI_row (by decide), sI_row (by decide)]
  have l1 : (π ++ [a]).length = π.length + 1 := by simp
  have e1 : m + 1 - (π ++ [a]).length = m - π.length := by rw [l1]; omega
  refine ⟨X1, ad, ⟨⟨hB.x (r 1 (by omega)) (r 2 (by omega)) (by rw [← hX1]; rfl), by rw [r 1 (by omega)]; exact f9, f15⟩, ⟨?_, hG⟩, ⟨⟨by rw [← hX1, sI_ne (by omega), sI_row (by decide), sI_row (by decide), sI_row (by decide)]; exact o1, o2, o3⟩, by rw [← hX1, sI_eq], by rw [e1]; exact m2, by rw [l1]; omega, by omega⟩, ?_, ⟨by rw [l1, s1, List.length_cons]; congr 1; omega, by rw [List.append_assoc]; exact s2, by rw [l1]; rw [List.length_cons] at s3; omega⟩, d1, d2⟩, rfl, r 1 (by omega), by rw [← hX1]; rfl⟩
  · rw [← hX1]
    exact (((hF.i (by omega)).i (by omega)).i (by omega)).i (by omega)
  · rw [e1, r6, r7, r8]
    refine ⟨fun i hi => ?_, ?_, c3.add (by omega) ?_, ?_⟩
    · rw [upS_ne (by omega), upS_ne (by omega), upS_ne (by omega)]; exact c1 i hi
    · have e2 : m - π.length + π.length = m := by omega
      exact (c2.up (by omega)).app (by rw [e2, upS_eq]; exact ha) (by rw [e2, upS_eq]) (by rw [e2, upS_eq])
    · rcases hk with h | h
      · exact Or.inl h
      · exact Or.inr (Or.inl h)
    · rcases hk with h | h
      · omega
      · omega
/-- a leaf, told by both -/
theorem SQ.leaf {l : Nat} {t b : Int32} (h : SQ X0 Y0 n p o m k dp wh [] σ X Y) (hm : m < 40) (hk : k < o) (hl : l < 8) (h3 : l = 3 → ∃ q, t = nI q ∧ q < ct (bP X0 4) 0) (h4 : l = 4 → ∃ q, t = nI q ∧ q < ct (bP X0 4) 4) (h5 : 5 ≤ l → b = 60 ∨ b = 61 ∨ b = 62) : ∃ X1 Y1, fX7_addStep (nI (24 + l)) t b X = some ((), X1) ∧ fX12_code (nI l) b t Y = some ((), Y1) ∧ SQ X0 Y0 n p o (m + 1) (k + 1) dp wh [] σ X1 Y1 ∧ X1.1 1 = X.1 1 ∧ X1.2 = X.2 ∧ (∀ j, ¬ j = 42 → Y1.1 218 j = Y.1 218 j) ∧ Y1.2 = Y.2 := by
  obtain ⟨⟨hB, f9, f15⟩, ⟨hF, hG⟩, ⟨⟨o1, o2, o3⟩, m1, m2, m3, m4⟩, ⟨c1, c2, c3, c4⟩, ⟨s1, s2, s3⟩, d1, d2⟩ := h
  generalize hX1 : sI (sI (sI (sI X 136 m (nI (24 + l))) 137 m t) 138 m b) 135 2 (nI (m + 1)) = X1
  generalize hY1 : sI (sI (sI (sI Y 222 (3 * m) (nI l)) 222 (3 * m + 1) b) 222 (3 * m + 2) t) 218 42 (nI (m + 1)) = Y1
  rw [List.length_nil, Nat.sub_zero] at m2 c1 c2
  have ad : fX7_addStep (nI (24 + l)) t b X = some ((), X1) := by
    unfold fX7_addStep
    rw [gI_e, m1, it_f (nI_ge hm (by decide)), gI_e, m1, wA_n hm (by decide), gI_e, sI_row (by decide), m1, wA_n hm (by decide), gI_e, sI_row (by decide), sI_row (by decide), m1, wA_n hm (by decide), gI_e, sI_row (by decide), sI_row (by decide), sI_row (by decide), m1, pI_e, nI_1, hX1]; rfl
  have co : fX12_code (nI l) b t Y = some ((), Y1) := by
    unfold fX12_code
    rw [gI_e, m2, ix_lm, wA_n (by omega) (by decide), gI_e, sI_row (by decide), m2, ix_lm, ix_al, wA_n (by omega) (by decide), gI_e, sI_row (by decide), sI_row (by decide), m2, ix_lm, ix_al, wA_n (by omega) (by decide), gI_e, sI_row (by decide), sI_row (by decide), sI_row (by decide), m2, pI_e, nI_1, hY1]; rfl
  have r : ∀ b, ¬ (135 ≤ b ∧ b < 139) → X1.1 b = X.1 b := fun b hb => by rw [← hX1, sI_row (by omega), sI_row (by omega), sI_row (by omega), sI_row (by omega)]
  have r6 : X1.1 136 = upS (X.1 136) m (nI (24 + l)) := by rw [← hX1, sI_row (by decide), sI_row (by decide), sI_row (by decide), sI_up]
  have r7 : X1.1 137 = upS (X.1 137) m t := by rw [← hX1, sI_row (by decide), sI_row (by decide), sI_up, sI_row (by decide)]
  have r8 : X1.1 138 = upS (X.1 138) m b := by rw [← hX1, sI_row (by decide), sI_up, sI_row (by decide), sI_row (by decide)]
  have y22 : Y1.1 222 = upS (upS (upS (Y.1 222) (3 * m) (nI l)) (3 * m + 1) b) (3 * m + 2) t := by rw [← hY1, sI_row (by decide), sI_up, sI_up, sI_up]
  have yr : ∀ b, ¬ b = 218 → ¬ b = 222 → Y1.1 b = Y.1 b := fun b h1 h2 => by rw [← hY1, sI_row h1, sI_row h2, sI_row h2, sI_row h2]
  have yf : ∀ j, ¬ j = 42 → Y1.1 218 j = Y.1 218 j := fun j hj => by rw [← hY1, sI_ne (by omega), sI_row (by decide), sI_row (by decide), sI_row (by decide)]
  refine ⟨X1, Y1, ad, co, ⟨⟨(hB.x (r 1 (by omega)) (r 2 (by omega)) (by rw [← hX1]; rfl)).y (yf 3 (by decide)) (yf 4 (by decide)) (yf 5 (by decide)) (yr 219 (by decide) (by decide)) (by rw [← hY1]; rfl), by rw [r 1 (by omega)]; exact f9, by rw [yf 15 (by decide)]; exact f15⟩, ⟨?_, ?_⟩, ⟨⟨by rw [← hX1, sI_ne (by omega), sI_row (by decide), sI_row (by decide), sI_row (by decide)]; exact o1, by rw [yf 43 (by decide)]; exact o2, o3⟩, by rw [← hX1, sI_eq], by rw [← hY1, sI_eq, List.length_nil, Nat.sub_zero], Nat.zero_le _, by omega⟩, ?_, ⟨by rw [yf 44 (by decide)]; exact s1, by rw [yr 234 (by decide) (by decide)]; exact s2, s3⟩, by rw [yf 45 (by decide)]; exact d1, by rw [yf 46 (by decide)]; exact d2⟩, r 1 (by omega), by rw [← hX1]; rfl, yf, by rw [← hY1]; rfl⟩
  · rw [← hX1]
    exact (((hF.i (by omega)).i (by omega)).i (by omega)).i (by omega)
  · rw [← hY1]
    exact (((hG.r (Or.inl rfl)).r (Or.inl rfl)).r (Or.inl rfl)).f (by omega)
  · rw [List.length_nil, Nat.sub_zero, r6, r7, r8, y22]
    refine ⟨fun i hi => ?_, trivial, c3.add (by omega) (Or.inr (Or.inr ⟨?_, ?_, ?_, rfl⟩)), by omega⟩
    · by_cases e : i = m
      · subst e
        rw [upS_eq, upS_eq, upS_eq, upS_ne (by omega), upS_ne (by omega), upS_eq, upS_ne (by omega), upS_eq, upS_eq]
        exact ⟨rfl, rfl, Or.inr (Or.inr (Or.inr ⟨l, hl, rfl, rfl, h3, h4, h5⟩))⟩
      · rw [upS_ne e, upS_ne e, upS_ne e, upS_ne (by omega), upS_ne (by omega), upS_ne (by omega), upS_ne (by omega), upS_ne (by omega), upS_ne (by omega), upS_ne (by omega), upS_ne (by omega), upS_ne (by omega)]
        exact c1 i (by omega)
    · exact fun z => absurd ((nI_eq (b := 21) (by omega) (by decide)).mp z) (by omega)
    · exact fun z => absurd ((nI_eq (b := 22) (by omega) (by decide)).mp z) (by omega)
    · exact fun z => absurd ((nI_eq (b := 23) (by omega) (by decide)).mp z) (by omega)
/-- the reference tells the first of what is pending -/
theorem SQ.emit {a : Int32} (h : SQ X0 Y0 n p o m k dp wh (a :: π) σ X Y) : ∃ Y1, fX12_code a 0 0 (sI Y 218 44 (nI (π.length + σ.length))) = some ((), Y1) ∧ SQ X0 Y0 n p o m k dp wh π σ X Y1 ∧ (∀ j, ¬ j = 42 → ¬ j = 44 → Y1.1 218 j = Y.1 218 j) ∧ Y1.2 = Y.2 := by
  obtain ⟨⟨hB, f9, f15⟩, ⟨hF, hG⟩, ⟨⟨o1, o2, o3⟩, m1, m2, m3, m4⟩, ⟨c1, c2, c3, c4⟩, ⟨s1, s2, s3⟩, d1, d2⟩ := h
  rw [List.length_cons] at m2 m3 c1 c2 s1 s3
  obtain ⟨c, hc⟩ : ∃ c, m - (π.length + 1) = c := ⟨_, rfl⟩
  rw [hc] at m2 c1 c2
  have hc2 : m - π.length = c + 1 := by omega
  generalize hY1 : sI (sI (sI (sI (sI Y 218 44 (nI (π.length + σ.length))) 222 (3 * c) a) 222 (3 * c + 1) 0) 222 (3 * c + 2) 0) 218 42 (nI (c + 1)) = Y1
  have co : fX12_code a 0 0 (sI Y 218 44 (nI (π.length + σ.length))) = some ((), Y1) := by
    unfold fX12_code
    rw [gI_e, sI_ne (by omega), m2, ix_lm, wA_n (by omega) (by decide), gI_e, sI_row (by decide), sI_ne (by omega), m2, ix_lm, ix_al, wA_n (by omega) (by decide), gI_e, sI_row (by decide), sI_row (by decide), sI_ne (by omega), m2, ix_lm, ix_al, wA_n (by omega) (by decide), gI_e, sI_row (by decide), sI_row (by decide), sI_row (by decide), sI_ne (by omega), m2, pI_e, nI_1, hY1]; rfl
  have y22 : Y1.1 222 = upS (upS (upS (Y.1 222) (3 * c) a) (3 * c + 1) 0) (3 * c + 2) 0 := by rw [← hY1, sI_row (by decide), sI_up, sI_up, sI_up, sI_row (by decide)]
  have yr : ∀ b, ¬ b = 218 → ¬ b = 222 → Y1.1 b = Y.1 b := fun b h1 h2 => by rw [← hY1, sI_row h1, sI_row h2, sI_row h2, sI_row h2, sI_row h1]
  have yf : ∀ j, ¬ j = 42 → ¬ j = 44 → Y1.1 218 j = Y.1 218 j := fun j hj h4 => by rw [← hY1, sI_ne (by omega), sI_row (by decide), sI_row (by decide), sI_row (by decide), sI_ne (by omega)]
  have y44 : Y1.1 218 44 = nI (π.length + σ.length) := by rw [← hY1, sI_ne (by omega), sI_row (by decide), sI_row (by decide), sI_row (by decide), sI_eq]
  refine ⟨Y1, co, ⟨⟨hB.y (yf 3 (by decide) (by decide)) (yf 4 (by decide) (by decide)) (yf 5 (by decide) (by decide)) (yr 219 (by decide) (by decide)) (by rw [← hY1]; rfl), f9, by rw [yf 15 (by decide) (by decide)]; exact f15⟩, ⟨hF, ?_⟩, ⟨⟨o1, by rw [yf 43 (by decide) (by decide)]; exact o2, o3⟩, m1, by rw [hc2, ← hY1, sI_eq], by omega, m4⟩, ?_, ⟨y44, by rw [yr 234 (by decide) (by decide)]; exact s2.2, by omega⟩, by rw [yf 45 (by decide) (by decide)]; exact d1, by rw [yf 46 (by decide) (by decide)]; exact d2⟩, yf, by rw [← hY1]; rfl⟩
  · rw [← hY1]
    exact ((((hG.f (by omega)).r (Or.inl rfl)).r (Or.inl rfl)).r (Or.inl rfl)).f (by omega)
  · rw [hc2, y22]
    refine ⟨fun i hi => ?_, c2.2.2.2, c3, c4⟩
    by_cases e : i = c
    · subst e
      rw [upS_ne (by omega), upS_ne (by omega), upS_eq, upS_ne (by omega), upS_eq, upS_eq, c2.2.1, c2.2.2.1]
      refine ⟨rfl, rfl, ?_⟩
      rcases c2.1 with ⟨x, y⟩ | ⟨x, y⟩ | ⟨x, y⟩
      · exact Or.inr (Or.inr (Or.inl ⟨y, x⟩))
      · exact Or.inr (Or.inl ⟨y, x⟩)
      · exact Or.inl ⟨y, x⟩
    · rw [upS_ne (by omega), upS_ne (by omega), upS_ne (by omega), upS_ne (by omega), upS_ne (by omega), upS_ne (by omega), upS_ne (by omega), upS_ne (by omega), upS_ne (by omega)]
      exact c1 i (by omega)
theorem SQ.top {a : Int32} {s : List Int32} (h : SQ X0 Y0 n p o m k dp wh π σ X Y) (e : π ++ σ = a :: s) : Y.1 218 44 = nI (s.length + 1) ∧ Y.1 234 s.length = a ∧ s.length < 40 := by
  obtain ⟨-, -, -, -, ⟨s1, s2, s3⟩, -⟩ := h
  have l : π.length + σ.length = s.length + 1 := by
    have := congrArg List.length e
    rw [List.length_append, List.length_cons] at this
    exact this
  rw [e] at s2
  exact ⟨by rw [s1, l], s2.1, by omega⟩
theorem SQ.e0 (h : SQ X0 Y0 n p o m k dp wh [] [] X Y) : Y.1 218 44 = 0 := h.2.2.2.2.1.1
/-- all that is pending, as far as it binds as much -/
theorem e_joins {till : Int32} : ∀ {π : List Int32} {Y : X_} (f : Nat), SQ X0 Y0 n p o m k dp wh π σ X Y → π.length < f → (∀ a ∈ π, a = 21 ∨ (a = 22 ∧ till = 22)) → (∀ a s, σ = a :: s → ¬ a = 21 ∧ ¬ (a = 22 ∧ till = 22)) → ∃ Y1, (lz0 (fun L0 => (gI 218 44 fun v1 => (it (v1 ≤ 0) (re ()) (gI 218 44 fun v2 => (rA 234 45 (v2 - 1) fun v3 => (jo0 ((gI 218 44 fun v4 => (pI 218 44 (v4 - 1) (gI 218 44 fun v5 => (rA 234 45 v5 fun v6 => (ca (fX12_code v6 0 0) fun _ => L0)))))) (fun J45 => (it (v3 = 21) J45 (gI 218 44 fun v7 => (rA 234 45 (v7 - 1) fun v8 => (it (v8 = 22) (it (till = 22) J45 (re ())) (re ())))))))))))) f) Y = some ((), Y1) ∧ SQ X0 Y0 n p o m k dp wh [] σ X Y1 ∧ (∀ j, ¬ j = 42 → ¬ j = 44 → Y1.1 218 j = Y.1 218 j) ∧ Y1.2 = Y.2 := by
  intro π
  have sub1 : ∀ q : Nat, nI (q + 1) - 1 = nI q := fun q => by rw [show nI (q + 1) - 1 = nI (q + 1 - 1) from ix_sub (c := 1) (by omega), Nat.add_sub_cancel]
  induction π with
  | nil =>
    intro Y f h hf _ hs
    obtain ⟨f, rfl⟩ : ∃ g, f = g + 1 := ⟨f - 1, by omega⟩
    rw [lz0_s, gI_e]
    cases σ with
    | nil =>
      rw [h.e0, it_t (by decide)]
      exact ⟨Y, rfl, h, fun _ _ _ => rfl, rfl⟩
    | cons a s =>
      obtain ⟨t1, t2, t3⟩ := h.top (a := a) (s := s) rfl
      obtain ⟨g1, g2⟩ := hs a s rfl
      rw [t1, it_f (show ¬ nI (s.length + 1) ≤ 0 from fun z => absurd ((nI_leI (b := 0) (by omega) (by decide)).mp z) (by omega)), gI_e, t1, sub1, rA_n (by omega) (by decide), t2, jo0_e, it_f g1, gI_e, t1, sub1, rA_n (by omega) (by decide), t2, it_e]
      by_cases c : a = 22
      · rw [if_pos c, it_f (fun z => g2 ⟨c, z⟩)]
        exact ⟨Y, rfl, h, fun _ _ _ => rfl, rfl⟩
      · rw [if_neg c]
        exact ⟨Y, rfl, h, fun _ _ _ => rfl, rfl⟩
  | cons a π ih =>
    intro Y f h hf hp hs
    rw [List.length_cons] at hf
    obtain ⟨f, rfl⟩ : ∃ g, f = g + 1 := ⟨f - 1, by omega⟩
    obtain ⟨t1, t2, t3⟩ := h.top (a := a) (s := π ++ σ) rfl
    have la : (π ++ σ).length = π.length + σ.length := List.length_append
    obtain ⟨Y1, e1, e2, e3, e4⟩ := h.emit
    obtain ⟨Y2, i1, i2, i3, i4⟩ := ih f e2 (by omega) (fun b hb => hp b (List.mem_cons_of_mem _ hb)) hs
    have J : (gI 218 44 fun v4 => (pI 218 44 (v4 - 1) (gI 218 44 fun v5 => (rA 234 45 v5 fun v6 => (ca (fX12_code v6 0 0) fun _ => (lz0 (fun L0 => (gI 218 44 fun v1 => (it (v1 ≤ 0) (re ()) (gI 218 44 fun v2 => (rA 234 45 (v2 - 1) fun v3 => (jo0 ((gI 218 44 fun v4 => (pI 218 44 (v4 - 1) (gI 218 44 fun v5 => (rA 234 45 v5 fun v6 => (ca (fX12_code v6 0 0) fun _ => L0)))))) (fun J45 => (it (v3 = 21) J45 (gI 218 44 fun v7 => (rA 234 45 (v7 - 1) fun v8 => (it (v8 = 22) (it (till = 22) J45 (re ())) (re ())))))))))))) f)))))) Y = some ((), Y2) := by
      rw [gI_e, t1, sub1, pI_e, gI_e, sI_eq, rA_n (by omega) (by decide), sI_row (by decide), t2, la, ca_s e1]
      exact i1
    rw [lz0_s, gI_e, t1, it_f (show ¬ nI ((π ++ σ).length + 1) ≤ 0 from fun z => absurd ((nI_leI (b := 0) (by omega) (by decide)).mp z) (by omega)), gI_e, t1, sub1, rA_n (by omega) (by decide), t2, jo0_e, it_e]
    refine ⟨Y2, ?_, i2, fun j h1 h2 => (i3 j h1 h2).trans (e3 j h1 h2), i4.trans e4⟩
    by_cases c : a = 21
    · rw [if_pos c]; exact J
    · rw [if_neg c, gI_e, t1, sub1, rA_n (by omega) (by decide), t2]
      rcases hp a (List.mem_cons_self ..) with z | ⟨z1, z2⟩
      · exact absurd z c
      · rw [it_t z1, it_t z2]; exact J
theorem e_nots : ∀ {j : Nat} {ρ : List Int32} {dp : Nat} {Y : X_} (f : Nat), SQ X0 Y0 n p o m k (dp + j) wh (List.replicate j 20 ++ ρ) σ X Y → j < f → (∀ a s, ρ ++ σ = a :: s → ¬ a = 20) → ∃ Y1, (lz0 (fun L0 => (gI 218 44 fun v1 => (it (v1 ≤ 0) (re ()) (gI 218 44 fun v2 => (rA 234 45 (v2 - 1) fun v3 => (it (v3 = 20) (gI 218 44 fun v4 => (pI 218 44 (v4 - 1) (gI 218 45 fun v5 => (pI 218 45 (v5 - 1) (ca (fX12_code 20 0 0) fun _ => L0))))) (re ()))))))) f) Y = some ((), Y1) ∧ SQ X0 Y0 n p o m k dp wh ρ σ X Y1 ∧ (∀ q, ¬ q = 42 → ¬ q = 44 → ¬ q = 45 → Y1.1 218 q = Y.1 218 q) ∧ Y1.2 = Y.2 := by
  have sub1 : ∀ q : Nat, nI (q + 1) - 1 = nI q := fun q => by rw [show nI (q + 1) - 1 = nI (q + 1 - 1) from ix_sub (c := 1) (by omega), Nat.add_sub_cancel]
  intro j
  induction j with
  | zero =>
    intro ρ dp Y f h hf hs
    obtain ⟨f, rfl⟩ : ∃ g, f = g + 1 := ⟨f - 1, by omega⟩
    rw [List.replicate_zero, List.nil_append, Nat.add_zero] at h
    rw [lz0_s, gI_e]
    cases e : ρ ++ σ with
    | nil =>
      have : Y.1 218 44 = 0 := by
        have l := congrArg List.length e
        rw [List.length_append, List.length_nil] at l
        have s1 := h.2.2.2.2.1.1
        rw [l] at s1
        exact s1
      rw [this, it_t (by decide)]
      exact ⟨Y, rfl, h, fun _ _ _ _ => rfl, rfl⟩
    | cons a s =>
      obtain ⟨t1, t2, t3⟩ := h.top e
      rw [t1, it_f (show ¬ nI (s.length + 1) ≤ 0 from fun z => absurd ((nI_leI (b := 0) (by omega) (by decide)).mp z) (by omega)), gI_e, t1, sub1, rA_n (by omega) (by decide), t2, it_f (hs a s e)]
      exact ⟨Y, rfl, h, fun _ _ _ _ => rfl, rfl⟩
  | succ j ih =>
    intro ρ dp Y f h hf hs
    obtain ⟨f, rfl⟩ : ∃ g, f = g + 1 := ⟨f - 1, by omega⟩
    rw [List.replicate_succ, List.cons_append] at h
    obtain ⟨t1, t2, t3⟩ := h.top (a := 20) (s := (List.replicate j 20 ++ ρ) ++ σ) rfl
    have la : ((List.replicate j 20 ++ ρ) ++ σ).length = (List.replicate j 20 ++ ρ).length + σ.length := List.length_append
    have dpv : Y.1 218 45 = nI (dp + (j + 1)) := h.2.2.2.2.2.1
    have h' := h.deep (dp + j)
    obtain ⟨Y1, e1, e2, e3, e4⟩ := h'.emit
    obtain ⟨Y2, i1, i2, i3, i4⟩ := ih f e2 (by omega) hs
    have cm : sI (sI Y 218 45 (nI (dp + j))) 218 44 (nI ((List.replicate j 20 ++ ρ).length + σ.length)) = sI (sI Y 218 44 (nI ((List.replicate j 20 ++ ρ).length + σ.length))) 218 45 (nI (dp + j)) := by
      refine Prod.ext ?_ rfl
      funext b q
      rw [sI_i, sI_i, sI_i, sI_i]
      by_cases c1 : b = 218 ∧ q = 44
      · rw [if_pos c1, if_neg (by omega), if_pos c1]
      · rw [if_neg c1]
        by_cases c2 : b = 218 ∧ q = 45
        · rw [if_pos c2, if_pos c2]
        · rw [if_neg c2, if_neg c2, if_neg c1]
    rw [cm] at e1
    refine ⟨Y2, ?_, i2, fun q h1 h2 h3 => (i3 q h1 h2 h3).trans ((e3 q h1 h2).trans (sI_ne (by omega))), i4.trans e4⟩
    rw [lz0_s, gI_e, t1, it_f (show ¬ nI (((List.replicate j (20 : Int32) ++ ρ) ++ σ).length + 1) ≤ 0 from fun z => absurd ((nI_leI (b := 0) (by omega) (by decide)).mp z) (by omega)), gI_e, t1, sub1, rA_n (by omega) (by decide), t2, it_t rfl, gI_e, t1, sub1, pI_e, gI_e, sI_ne (by omega), dpv, show dp + (j + 1) = dp + j + 1 by omega, sub1, pI_e, la, ca_s e1]
    exact i1
end SE
