/-! pulls: both -/
section PU
variable {P V : m_V} {X : X_}
theorem lz3_s {α : Type} {B : (Int32 → Int32 → Int32 → RM α) → Int32 → Int32 → Int32 → RM α} {f : Nat} {x y z : Int32} : lz3 B (f + 1) x y z = B (lz3 B f) x y z := rfl
theorem lz3_post {α : Type} {B : (Int32 → Int32 → Int32 → RM α) → Int32 → Int32 → Int32 → RM α} {n : Nat} (I : Nat → Int32 → Int32 → X_ → Prop) (Q : Option (α × X_) → Prop)
    (h0 : ∀ a b X L, I n a b X → Q (B L a b (nI n) X))
    (h1 : ∀ i a b X L, i < n → I i a b X → (∀ a' b' X', I (i + 1) a' b' X' → Q (L a' b' (nI (i + 1)) X')) → Q (B L a b (nI i) X)) :
    ∀ m i f a b X, i + m = n → m < f → I i a b X → Q (lz3 B f a b (nI i) X) := by
  intro m
  induction m with
  | zero =>
    intro i f a b X hi hf hR
    obtain ⟨f, rfl⟩ : ∃ g, f = g + 1 := ⟨f - 1, by omega⟩
    rw [lz3_s]
    obtain rfl : i = n := by omega
    exact h0 a b X _ hR
  | succ m ih =>
    intro i f a b X hi hf hR
    obtain ⟨f, rfl⟩ : ∃ g, f = g + 1 := ⟨f - 1, by omega⟩
    rw [lz3_s]
    exact h1 i a b X _ (by omega) hR (fun a' b' X' hR' => ih (i + 1) f a' b' X' (by omega) (by omega) hR')
/-- those below n of which p holds, put behind a row -/
def ap (p : Nat → Bool) (v : Nat → Int32) : Nat → (Nat → Int32) × Nat → (Nat → Int32) × Nat
  | 0, s => s
  | n + 1, s => if p n = true then (upS (ap p v n s).1 (ap p v n s).2 (v n), (ap p v n s).2 + 1) else ap p v n s
theorem ap_le (p : Nat → Bool) (v : Nat → Int32) (s : (Nat → Int32) × Nat) : ∀ n, s.2 ≤ (ap p v n s).2 ∧ (ap p v n s).2 ≤ s.2 + n := by
  intro n
  induction n with
  | zero => exact ⟨Nat.le_refl _, Nat.le_refl _⟩
  | succ n ih =>
    rw [ap]
    split
    · exact ⟨by show s.2 ≤ (ap p v n s).2 + 1; omega, by show (ap p v n s).2 + 1 ≤ _; omega⟩
    · omega
theorem ap_none {p : Nat → Bool} {v : Nat → Int32} {s : (Nat → Int32) × Nat} {n : Nat} : ∀ m, (∀ i, n ≤ i → i < n + m → p i = false) → ap p v (n + m) s = ap p v n s := by
  intro m
  induction m with
  | zero => intro _; rfl
  | succ m ih =>
    intro h
    rw [show n + (m + 1) = (n + m) + 1 by omega, ap, if_neg (by rw [h (n + m) (by omega) (by omega)]; decide)]
    exact ih (fun i a b => h i a (by omega))
theorem ap_shift (p : Nat → Bool) (v : Nat → Int32) (s : (Nat → Int32) × Nat) (n : Nat) : ∀ m, ap p v (n + m) s = ap (fun i => p (n + i)) (fun i => v (n + i)) m (ap p v n s) := by
  intro m
  induction m with
  | zero => rfl
  | succ m ih => rw [show n + (m + 1) = (n + m) + 1 by omega, ap, ap, ih]
theorem ap_congr {p q : Nat → Bool} {v u : Nat → Int32} {s : (Nat → Int32) × Nat} : ∀ n, (∀ i, i < n → p i = q i) → (∀ i, i < n → v i = u i) → ap p v n s = ap q u n s := by
  intro n
  induction n with
  | zero => intro _ _; rfl
  | succ n ih => intro h1 h2; rw [ap, ap, h1 n (by omega), h2 n (by omega), ih (fun i hi => h1 i (by omega)) (fun i hi => h2 i (by omega))]
def agree (s s' : (Nat → Int32) × Nat) : Prop := s.2 = s'.2 ∧ ∀ i, i < s.2 → s.1 i = s'.1 i
theorem ap_agree {p : Nat → Bool} {v : Nat → Int32} {s s' : (Nat → Int32) × Nat} (h : agree s s') : ∀ n, agree (ap p v n s) (ap p v n s') := by
  intro n
  induction n with
  | zero => exact h
  | succ n ih =>
    rw [ap, ap]
    split
    · obtain ⟨a, b⟩ := ih
      refine ⟨by show _ + 1 = _ + 1; rw [a], fun i hi => ?_⟩
      show upS (ap p v n s).1 (ap p v n s).2 (v n) i = upS (ap p v n s').1 (ap p v n s').2 (v n) i
      have hi : i < (ap p v n s).2 + 1 := hi
      rw [← a]
      by_cases c : i = (ap p v n s).2
      · subst c; rw [upS_eq, upS_eq]
      · rw [upS_ne c, upS_ne c]
        exact b i (by omega)
    · exact ih
/-- a row, and how many it has -/
def putR (X : X_) (a c k : Nat) (s : (Nat → Int32) × Nat) : X_ := sI (setR X a s.1) c k (nI s.2)
theorem putR_self {a c k n : Nat} (h : X.1 c k = nI n) : putR X a c k (X.1 a, n) = X := by
  unfold putR
  rw [setR_self rfl]
  refine Prod.ext (funext fun b => funext fun j => ?_) rfl
  by_cases q : b = c ∧ j = k
  · obtain ⟨rfl, rfl⟩ := q; rw [sI_eq]; exact h.symm
  · rw [sI_ne q]
theorem putR_ck {a c k : Nat} {s : (Nat → Int32) × Nat} : (putR X a c k s).1 c k = nI s.2 := sI_eq
theorem putR_row {a c k : Nat} {s : (Nat → Int32) × Nat} (h : ¬ a = c) : (putR X a c k s).1 a = s.1 := by
  unfold putR
  rw [sI_row h, setR_eq]
theorem putR_ne {a b c k : Nat} {s : (Nat → Int32) × Nat} (h1 : ¬ b = a) (h2 : ¬ b = c) : (putR X a c k s).1 b = X.1 b := by
  unfold putR
  rw [sI_row h2, setR_ne h1]
theorem putR_f {a c k j : Nat} {s : (Nat → Int32) × Nat} (h1 : ¬ c = a) (h2 : ¬ j = k) : (putR X a c k s).1 c j = X.1 c j := by
  unfold putR
  rw [sI_ne (by omega), setR_ne h1]
theorem putR_put {a c k : Nat} {s : (Nat → Int32) × Nat} {v : Int32} (h : ¬ a = c) : sI (sI (putR X a c k s) a s.2 v) c k (nI (s.2 + 1)) = putR X a c k (upS s.1 s.2 v, s.2 + 1) := by
  unfold putR
  rw [show sI (sI (setR X a s.1) c k (nI s.2)) a s.2 v = sI (setR X a (upS s.1 s.2 v)) c k (nI s.2) by
    rw [← setR_s]
    refine Prod.ext (funext fun b => funext fun j => ?_) rfl
    by_cases q1 : b = c ∧ j = k
    · obtain ⟨rfl, rfl⟩ := q1
      rw [sI_ne (fun e => h e.1.symm), sI_eq, sI_eq]
    · rw [sI_ne (a := c) q1]
      by_cases q2 : b = a ∧ j = s.2
      · obtain ⟨rfl, rfl⟩ := q2
        rw [sI_eq, sI_eq]
      · rw [sI_ne q2, sI_ne q2, sI_ne q1], sI_sI]
theorem k_addP (b m : Int32) {n : Nat} (hn : n ≤ 16) : ∀ (f : Nat → Int32) (k : Nat), k + n ≤ 16 → fX1_addPulls b (nI n) m (putR X 142 141 1 (f, k)) = some ((), putR X 142 141 1 (ap (bt b) (fun i => m + nI i) n (f, k))) := by
  intro f k hk
  unfold fX1_addPulls
  refine lz1_X (n := n) (fun i => putR X 142 141 1 (ap (bt b) (fun i => m + nI i) i (f, k))) (by omega) (fun i L hi => ?_) (fun L => ?_)
  · have hle := ap_le (bt b) (fun i => m + nI i) (f, k) i
    have hle2 : (ap (bt b) (fun i => m + nI i) i (f, k)).2 ≤ k + i := hle.2
    rw [it_f (nI_ge hi (by omega)), b_tst (by omega), nI_1, ap]
    by_cases c : bt b i = true
    · rw [it_t (by rw [c]; rfl), gI_e, putR_ck, it_f (show ¬ nI 16 ≤ nI _ from nI_ge (by omega) (by decide)), gI_e, putR_ck, wA_n (by omega) (by decide), gI_e, sI_ne (by omega), putR_ck, pI_e, nI_1, putR_put (by decide), if_pos c]
    · rw [it_f (by rw [b2_1]; exact c), if_neg c]
  · rw [it_t (nI_le (Nat.le_refl _) (by omega))]
    rfl
/-- the routes that are in the way, points by points -/
def pl_R (P : m_V) (w : Int32) (i : Nat) (a : Int32) : Int32 := if bt w i = true then a ||| (p_routesNeeding P (nI i) 0 ||| p_routesNeeding P (nI i) 1) else a
def pl_S (P V : m_V) (w : Int32) (i : Nat) : Bool := bt w i && bt (s_showing P V) (P 4 i).toNatClampNeg
theorem free_iff {b : Int32} (w : okP P) (hb : lowB b (ct P 4)) : (b &&& (s_freeBy P V ^^^ -1) = 0) ↔ ∀ q, q < ct P 4 → bt b q = true → (V 1 q = 1 ∧ s_isApproached P V (P 11 q).toNatClampNeg = false) := by
  have h4 := w.c4.2
  rw [b_and0]
  constructor
  · intro h q hq e
    have := h q (by omega)
    rw [b_not (by omega)] at this
    have h2 : bt (s_freeBy P V) q = true := by
      cases z : bt (s_freeBy P V) q
      · exact absurd ⟨e, by rw [z]; rfl⟩ this
      · rfl
    unfold s_freeBy at h2
    rw [b_bo _ _ (by omega) q (by omega)] at h2
    simp only [Bool.and_eq_true, decide_eq_true_eq, Bool.not_eq_true'] at h2
    exact h2.2
  · intro h i hi q
    rw [b_not hi] at q
    by_cases c : i < ct P 4
    · have := h i c q.1
      have h2 : bt (s_freeBy P V) i = true := by
        unfold s_freeBy
        rw [b_bo _ _ (by omega) i hi]
        simp [c, this.1, this.2]
      rw [h2] at q
      exact absurd q.2 (by decide)
    · rw [hb i (by omega) hi] at q
      exact absurd q.1 (by decide)
theorem notFree_low (w : okP P) : lowB (s_notFree P V) (ct P 4) := lowB.bo (Nat.le_refl _) (by have := w.c4.2; omega)
theorem lowB.and' {x y : Int32} {n : Nat} (h : lowB y n) : lowB (x &&& y) n := fun i h1 hi => by rw [b_and, h i h1 hi]; simp
theorem against_low (wL : wfL P) (r : Nat) (hr : r < ct P 4) : lowB (s_pointsAgainst P V r) (ct P 1) := by
  obtain ⟨-, -, h15, h16, -⟩ := wL.r r hr
  exact (h15.and).or h16.and
theorem k_against {a : Nat} (h : Inv X) (ha : a < ct (bP X 4) 4) : fX8_pointsAgainst 47 (nI a) X = some (s_pointsAgainst (bP X 4) (bV X 47) a, X) := by
  have := h.w.ok.c4.2
  unfold fX8_pointsAgainst
  rw [gd_t, nI_clamp (by omega)]
  rw [nI_clamp (by omega)]
  exact ⟨rfl, h.w.ok, by omega⟩
theorem k_barring {a : Nat} (h : Inv X) (ha : a < ct (bP X 4) 4) : fX8_barring 47 (nI a) X = some (s_barring (bP X 4) a, X) := by
  have := h.w.ok.c4.2
  unfold fX8_barring
  rw [gd_t, nI_clamp (by omega)]
  rw [nI_clamp (by omega)]
  exact ⟨rfl, h.w.ok, by omega⟩
theorem k_free (h : Inv X) : fX8_freeByPuttingBack 47 X = some (s_freeBy (bP X 4) (bV X 47), X) := gd_t (wfP_of h.w.l)
theorem or_low1 (b : Bool) (x : Int32) (h : x = 0 ∨ x = 1) : (x ||| b2 b = 0) ↔ (x = 0 ∧ b = false) := by
  rcases h with rfl | rfl <;> cases b <;> decide
theorem or_low2 (b : Bool) (x : Int32) (h : x = 0 ∨ x = 1) : x ||| b2 b = 0 ∨ x ||| b2 b = 1 := by
  rcases h with rfl | rfl <;> cases b <;> decide
/-- the answer, and the row that is told -/
def pl_B (P V : m_V) (W : Int32) (r : Nat) : Int32 := lo (pl_R P W) (ct P 1) (s_barring P r) &&& s_notFree P V
def pl_b (P V : m_V) (W : Int32) (r : Nat) : Prop := (∃ p, p < ct P 1 ∧ pl_S P V W p = true) ∨ ¬ (pl_B P V W r &&& (s_freeBy P V ^^^ -1) = 0)
def pl_r (P V : m_V) (W : Int32) (r : Nat) (f : Nat → Int32) : (Nat → Int32) × Nat := ap (bt W) (fun i => 16 + nI i) (ct P 1) (ap (bt (pl_B P V W r)) (fun i => 0 + nI i) (ct P 4) (f, 0))
def pl_Q (X : X_) (W : Int32) (r : Nat) (o : Option (Int32 × X_)) : Prop := (pl_b (bP X 4) (bV X 47) W r → o = some (-1, X)) ∧ (¬ pl_b (bP X 4) (bV X 47) W r → o = some (nI (pl_r (bP X 4) (bV X 47) W r (X.1 142)).2, putR X 142 141 1 (pl_r (bP X 4) (bV X 47) W r (X.1 142))))
theorem k_pulls (hX : Inv X) {r : Nat} (hr : r < ct (bP X 4) 4) (h1 : bV X 47 1 r = 0) (h2 : ¬ bP X 4 12 r = 0) (h3 : bP X 4 14 r &&& s_showing (bP X 4) (bV X 47) = 0) : pl_Q X (s_pointsAgainst (bP X 4) (bV X 47) r) r (fX1_workOutPulls (nI r) X) := by
  have w := hX.w
  have ok := w.ok
  have c4 := ok.c4.2
  have c1 := ok.c1.2
  have c0 := ok.c0.2
  have c' : 0 ≤ nI r ∧ nI r < bP X 4 1 4 := by rw [ok.c4.1]; exact idx_nI hr (by omega)
  unfold fX1_workOutPulls
  rw [ca_s (k_has (by decide)), it_f (bz_t c'), k_V (by omega) (by decide) (by decide), it_t h1, k_P (by omega) (by decide) (by decide), it_f h2, k_P (by omega) (by decide) (by decide), ca_s (k_showing hX), it_t h3, ca_s (k_against hX hr), ca_s (k_barring hX hr)]
  generalize hw : s_pointsAgainst (bP X 4) (bV X 47) r = W
  have hWl : lowB W (ct (bP X 4) 1) := by rw [← hw]; exact against_low w.l r hr
  have main : ∀ o, o = (lz3 (fun L63 x8 x9 x10 => (rA (4 + 1) 8 1 fun v11 => (it (v11 ≤ x10) (ca (fX8_notFree 47) fun v12 => (it (x9 = 0) (ca (fX8_freeByPuttingBack 47) fun v13 => (it (((x8 &&& v12) &&& (v13 ^^^ (-1))) = 0) (pI 141 1 0 (rA (4 + 1) 8 4 fun v14 => (ca (fX1_addPulls (x8 &&& v12) v14 0) fun _ => (rA (4 + 1) 8 1 fun v15 => (ca (fX1_addPulls W v15 16) fun _ => (gI 141 1 fun v16 => (re v16))))))) (re (-1)))) (re (-1)))) (it (((W >>> (x10 &&& 31)) &&& 1) = 1) (ca (fX5_routesNeeding 4 x10 0) fun v17 => (ca (fX5_routesNeeding 4 x10 1) fun v18 => (ca (fX8_showing 47) fun v19 => (rA (4 + 4) 6 x10 fun v20 => (L63 (x8 ||| (v17 ||| v18)) (x9 ||| ((v19 >>> (v20 &&& 31)) &&& 1)) (x10 + 1)))))) (L63 x8 x9 (x10 + 1)))))) FU (s_barring (bP X 4) r) 0 (nI 0)) X → pl_Q X W r o := by
    intro o ho
    subst ho
    refine lz3_post (n := ct (bP X 4) 1) (fun i x y Y => Y = X ∧ x = lo (pl_R (bP X 4) W) i (s_barring (bP X 4) r) ∧ (y = 0 ∨ y = 1) ∧ (y = 0 ↔ ∀ p, p < i → pl_S (bP X 4) (bV X 47) W p = false)) (pl_Q X W r) (fun x y Y L hI => ?_) (fun i x y Y L hi hI ih => ?_) (ct (bP X 4) 1) 0 FU (s_barring (bP X 4) r) 0 X (by omega) (by rw [FU_eq]; omega) ⟨rfl, rfl, Or.inl rfl, by simp⟩
    · obtain ⟨rfl, rfl, y1, y2⟩ := hI
      rw [k_Pl (by decide) (by decide) (by decide), ok.c1.1, it_t (nI_le (Nat.le_refl _) (by omega)), ca_s (k_notFree hX)]
      constructor
      · intro bad
        by_cases q : y = 0
        · rw [it_t q, ca_s (k_free hX)]
          rcases bad with ⟨p, hp, e⟩ | e
          · have := y2.mp q p hp
            rw [e] at this
            exact absurd this (by decide)
          · exact it_f e
        · rw [it_f q]; rfl
      · intro good
        have q : y = 0 := y2.mpr (fun p hp => by
          cases z : pl_S (bP Y 4) (bV Y 47) W p
          · rfl
          · exact absurd (Or.inl ⟨p, hp, z⟩) good)
        have q2 : pl_B (bP Y 4) (bV Y 47) W r &&& (s_freeBy (bP Y 4) (bV Y 47) ^^^ -1) = 0 := Classical.byContradiction (fun e => good (Or.inr e))
        have e0 : sI Y 141 1 0 = putR Y 142 141 1 (Y.1 142, 0) := by
          unfold putR
          rw [setR_self rfl]
          rfl
        have r5 : ∀ s, (putR Y 142 141 1 s).1 (4 + 1) = Y.1 5 := fun s => putR_ne (by decide) (by decide)
        have r4 : ∀ s, (putR Y 142 141 1 s).1 (4 + 1) 4 = nI (ct (bP Y 4) 4) := fun s => by rw [r5]; exact ok.c4.1
        have r1 : ∀ s, (putR Y 142 141 1 s).1 (4 + 1) 1 = nI (ct (bP Y 4) 1) := fun s => by rw [r5]; exact ok.c1.1
        have l1' : (ap (bt (pl_B (bP Y 4) (bV Y 47) W r)) (fun i => 0 + nI i) (ct (bP Y 4) 4) (Y.1 142, 0)).2 ≤ 10 := by
          have : (ap (bt (pl_B (bP Y 4) (bV Y 47) W r)) (fun i => 0 + nI i) (ct (bP Y 4) 4) (Y.1 142, 0)).2 ≤ 0 + ct (bP Y 4) 4 := (ap_le (bt (pl_B (bP Y 4) (bV Y 47) W r)) (fun i => 0 + nI i) (Y.1 142, 0) (ct (bP Y 4) 4)).2
          omega
        rw [it_t q, ca_s (k_free hX), show lo (pl_R (bP Y 4) W) (ct (bP Y 4) 1) (s_barring (bP Y 4) r) &&& s_notFree (bP Y 4) (bV Y 47) = pl_B (bP Y 4) (bV Y 47) W r from rfl, it_t q2, pI_e, e0, rA_l (by decide) (by decide), r4, ca_s (k_addP _ _ (by omega) _ _ (by omega)), rA_l (by decide) (by decide), r1, ca_s (k_addP _ _ (by omega) _ _ (show (ap (bt (pl_B (bP Y 4) (bV Y 47) W r)) (fun i => 0 + nI i) (ct (bP Y 4) 4) (Y.1 142, 0)).2 + ct (bP Y 4) 1 ≤ 16 by omega)), gI_e, putR_ck]
        rfl
    · obtain ⟨rfl, rfl, y1, y2⟩ := hI
      rw [k_Pl (by decide) (by decide) (by decide), ok.c1.1, it_f (nI_ge hi (by omega)), b_tst (by omega), nI_1]
      obtain ⟨d, ed, hd⟩ := w.l.q i hi
      have hs : lo (pl_R (bP Y 4) W) (i + 1) (s_barring (bP Y 4) r) = pl_R (bP Y 4) W i (lo (pl_R (bP Y 4) W) i (s_barring (bP Y 4) r)) := rfl
      by_cases q : bt W i = true
      · rw [it_t (by rw [q]; rfl), ca_s (k_needing hX), ca_s (k_needing hX), ca_s (k_showing hX), k_P (by omega) (by decide) (by decide), ed, b_tst (by omega)]
        refine ih _ _ _ ⟨rfl, ?_, or_low2 _ _ y1, ?_⟩
        · rw [hs, pl_R, if_pos q]
        · rw [or_low1 _ _ y1, y2]
          have hp : pl_S (bP Y 4) (bV Y 47) W i = bt (s_showing (bP Y 4) (bV Y 47)) d := by
            unfold pl_S
            rw [q, ed, nI_clamp (by omega)]; rfl
          constructor
          · intro ⟨z1, z2⟩ p hp2
            by_cases e : p = i
            · subst e; rw [hp]; exact z2
            · exact z1 p (by omega)
          · intro z
            exact ⟨fun p hp2 => z p (by omega), by rw [← hp]; exact z i (by omega)⟩
      · rw [it_f (by rw [b2_1]; exact q)]
        refine ih _ _ _ ⟨rfl, ?_, y1, ?_⟩
        · rw [hs, pl_R, if_neg q]
        · rw [y2]
          have hp : pl_S (bP Y 4) (bV Y 47) W i = false := by
            unfold pl_S
            simp [q]
          constructor
          · intro z p hp2
            by_cases e : p = i
            · subst e; exact hp
            · exact z p (by omega)
          · intro z p hp2
            exact z p (by omega)
  exact main _ rfl
/-- the reference's row of pulls -/
def pl_p (B W : Int32) (q : Nat) : Bool := if q < 10 then bt B q else bt W (q - 10)
def pl_v (q : Nat) : Int32 := if q < 10 then nI q else nI (6 + q)
def pl_Qr (P V : m_V) (Y : X_) (W : Int32) (r : Nat) (o : Option (Int32 × X_)) : Prop := (pl_b P V W r → o = some (-1, Y)) ∧ (¬ pl_b P V W r → o = some (nI (ap (pl_p (pl_B P V W r) W) pl_v 16 (Y.1 227, 0)).2, putR Y 227 218 25 (ap (pl_p (pl_B P V W r) W) pl_v 16 (Y.1 227, 0))))
theorem e_pulls {Y : X_} (hL : RLa P (Y.1 220)) (wL : wfL P) (hS : RS P V (Y.1 220)) (hN : wfN P V) {r : Nat} (hr : r < ct P 4) {W : Int32} (hWl : lowB W (ct P 1)) : pl_Qr P V Y W r ((lz2 (fun L63 x7 x8 => (rA 220 469 1 fun v9 => (it (v9 ≤ x8) (ca fX12_busy fun v10 => (lz1 (fun L143 x11 => (rA 220 469 4 fun v12 => (it (v12 ≤ x11) (pI 218 25 0 (lz1 (fun L203 x13 => (it (16 ≤ x13) (gI 218 25 fun v14 => (re v14)) (jo1 (fun w15 => (it (w15 = 0) (L203 (x13 + 1)) (gI 218 25 fun v16 => (it (10 ≤ x13) (wA 227 16 v16 (6 + x13) (gI 218 25 fun v17 => (pI 218 25 (v17 + 1) (L203 (x13 + 1))))) (wA 227 16 v16 x13 (gI 218 25 fun v18 => (pI 218 25 (v18 + 1) (L203 (x13 + 1))))))))) (fun J235 => (it (10 ≤ x13) (ca (fX12_bitOf W (x13 - 10)) fun v19 => (J235 v19)) (ca (fX12_bitOf (x7 &&& v10) x13) fun v20 => (J235 v20))))))) FU 0)) (ca (fX12_bitOf (x7 &&& v10) x11) fun v21 => (it (v21 = 0) (L143 (x11 + 1)) (rA 220 469 (229 + x11) fun v22 => (it (v22 = 1) (ca (fX12_isMet x11) fun v23 => (it (v23 = 0) (L143 (x11 + 1)) (re (-1)))) (re (-1))))))))) FU 0)) (ca (fX12_bitOf W x8) fun v24 => (it (v24 = 0) (L63 x7 (x8 + 1)) (rA 220 469 (20 + x8) fun v25 => (ca (fX12_showsFull v25) fun v26 => (it (v26 = 0) (ca (fX12_wanting x8 186) fun v27 => (ca (fX12_wanting x8 196) fun v28 => (L63 (x7 ||| (v27 ||| v28)) (x8 + 1)))) (re (-1)))))))))) FU (s_barring P r) (nI 0)) Y) := by
  have w := wL.ok
  have c4 := w.c4.2
  have c1 := w.c1.2
  have c0 := w.c0.2
  refine lz2_post (n := ct P 1) (fun i x Z => Z = Y ∧ x = lo (pl_R P W) i (s_barring P r) ∧ ∀ p, p < i → pl_S P V W p = false) (pl_Qr P V Y W r) (fun x Z L hI => ?_) (fun i x Z L hi hI ih => ?_) (ct P 1) 0 FU (s_barring P r) Y (by omega) (by rw [FU_eq]; omega) ⟨rfl, rfl, fun p hp => by omega⟩
  · obtain ⟨rfl, rfl, y2⟩ := hI
    rw [rA_l (by decide) (by decide), hL.n1 w, it_t (nI_le (Nat.le_refl _) (by omega)), ca_s (e_busy hL w hS), show lo (pl_R P W) (ct P 1) (s_barring P r) &&& s_notFree P V = pl_B P V W r from rfl]
    have hBl : lowB (pl_B P V W r) (ct P 4) := (notFree_low w).and'
    refine lz1_post (n := ct P 4) (fun i Z' => Z' = Z ∧ ∀ q, q < i → bt (pl_B P V W r) q = true → (V 1 q = 1 ∧ s_isApproached P V (P 11 q).toNatClampNeg = false)) (pl_Qr P V Z W r) (fun Z' L hI => ?_) (fun i Z' L hi hI ih => ?_) (ct P 4) 0 FU Z (by omega) (by rw [FU_eq]; omega) ⟨rfl, fun q hq => by omega⟩
    · obtain ⟨rfl, hq⟩ := hI
      have good : ¬ pl_b P V W r := by
        rintro (⟨p, hp, e⟩ | e)
        · rw [y2 p hp] at e; exact absurd e (by decide)
        · exact e ((free_iff w hBl).mpr hq)
      refine ⟨fun bad => absurd bad good, fun _ => ?_⟩
      have e0 : sI Z' 218 25 0 = putR Z' 227 218 25 (Z'.1 227, 0) := by
        unfold putR
        rw [setR_self rfl]
        rfl
      rw [rA_l (by decide) (by decide), hL.n4 w, it_t (nI_le (Nat.le_refl _) (by omega)), pI_e, e0]
      refine lz1_X (n := 16) (fun i => putR Z' 227 218 25 (ap (pl_p (pl_B P V W r) W) pl_v i (Z'.1 227, 0))) (by decide) (fun i L hi => ?_) (fun L => ?_)
      · have hle : (ap (pl_p (pl_B P V W r) W) pl_v i (Z'.1 227, 0)).2 ≤ 0 + i := (ap_le (pl_p (pl_B P V W r) W) pl_v (Z'.1 227, 0) i).2
        rw [it_f (nL_ge hi (by decide)), jo1_e, ap]
        generalize hs : ap (pl_p (pl_B P V W r) W) pl_v i (Z'.1 227, 0) = s at hle ⊢
        by_cases q : i < 10
        · have q10 : ¬ (10 : Int32) ≤ nI i := nL_ge q (by decide)
          have hp : pl_p (pl_B P V W r) W i = bt (pl_B P V W r) i := if_pos q
          have hv : pl_v i = nI i := if_pos q
          rw [it_f q10, ca_s (e_bitOf _ (by omega)), hp, hv]
          cases bt (pl_B P V W r) i
          · dsimp only
            rw [it_t (show b2 false = 0 from rfl), nI_1]; rfl
          · dsimp only
            rw [it_f (show ¬ b2 true = 0 by decide), gI_e, putR_ck, it_f q10, wA_n (by omega) (by decide), gI_e, sI_ne (by omega), putR_ck, pI_e, nI_1, nI_1, putR_put (by decide)]; rfl
        · have q10 : (10 : Int32) ≤ nI i := by rw [cL_le (by decide) (by omega)]; omega
          have hp : pl_p (pl_B P V W r) W i = bt W (i - 10) := if_neg q
          have hv : pl_v i = nI (6 + i) := if_neg q
          rw [it_t q10, ix_sl (by omega), ca_s (e_bitOf _ (by omega)), hp, hv]
          cases bt W (i - 10)
          · dsimp only
            rw [it_t (show b2 false = 0 from rfl), nI_1]; rfl
          · dsimp only
            rw [it_f (show ¬ b2 true = 0 by decide), gI_e, putR_ck, it_t q10, ix_la, wA_n (by omega) (by decide), gI_e, sI_ne (by omega), putR_ck, pI_e, nI_1, nI_1, putR_put (by decide)]; rfl
      · rw [it_t (nL_le (by decide)), gI_e, putR_ck]
        rfl
    · obtain ⟨rfl, hq⟩ := hI
      rw [rA_l (by decide) (by decide), hL.n4 w, it_f (nI_ge hi (by omega)), ca_s (e_bitOf _ (by omega)), nI_1]
      by_cases q : bt (pl_B P V W r) i = true
      · rw [it_f (by rw [b2_0, q]; decide), ix_la, rA_n (by omega) (by decide), hS.how hi]
        have bad : ¬ (V 1 i = 1 ∧ s_isApproached P V (P 11 i).toNatClampNeg = false) → pl_b P V W r := fun h => Or.inr (fun e => h ((free_iff w hBl).mp e i hi q))
        by_cases q1 : V 1 i = 1
        · rw [it_t q1, ca_s (e_isMet hL w wL.r hS.cr hS.t hi)]
          by_cases q2 : s_isApproached P V (P 11 i).toNatClampNeg = false
          · rw [it_t (by rw [b2_0]; exact q2)]
            refine ih _ ⟨rfl, fun q' h1 h2 => ?_⟩
            by_cases e : q' = i
            · subst e; exact ⟨q1, q2⟩
            · exact hq q' (by omega) h2
          · rw [it_f (by rw [b2_0]; exact q2)]
            exact ⟨fun _ => rfl, fun g => absurd (bad (fun h => q2 h.2)) g⟩
        · rw [it_f q1]
          exact ⟨fun _ => rfl, fun g => absurd (bad (fun h => q1 h.1)) g⟩
      · rw [it_t (by rw [b2_0]; simpa using q)]
        refine ih _ ⟨rfl, fun q' h1 h2 => ?_⟩
        by_cases e : q' = i
        · subst e; exact absurd h2 q
        · exact hq q' (by omega) h2
  · obtain ⟨rfl, rfl, y2⟩ := hI
    obtain ⟨d, ed, hd⟩ := wL.q i hi
    have hs : lo (pl_R P W) (i + 1) (s_barring P r) = pl_R P W i (lo (pl_R P W) i (s_barring P r)) := rfl
    rw [rA_l (by decide) (by decide), hL.n1 w, it_f (nI_ge hi (by omega)), ca_s (e_bitOf _ (by omega)), nI_1]
    by_cases q : bt W i = true
    · have hp : pl_S P V W i = bt (s_showing P V) d := by
        unfold pl_S
        rw [q, ed, nI_clamp (by omega)]; rfl
      rw [it_f (by rw [b2_0, q]; decide), ix_la, rA_n (by omega) (by decide), hL.lie hi, ed, ca_s (e_showsFull hL w hS hN hd)]
      by_cases q2 : bt (s_showing P V) d = false
      · have h1 := e_wanting (X := Z) hL w i (by omega) 0 (Or.inl rfl)
        have h2 := e_wanting (X := Z) hL w i (by omega) 1 (Or.inr rfl)
        rw [if_pos rfl] at h1
        rw [if_neg (by decide)] at h2
        rw [it_t (by rw [b2_0]; exact q2), ca_s h1, ca_s h2]
        refine ih _ _ ⟨rfl, by rw [hs, pl_R, if_pos q], fun p hp2 => ?_⟩
        by_cases e : p = i
        · subst e; rw [hp]; exact q2
        · exact y2 p (by omega)
      · rw [it_f (by rw [b2_0]; exact q2)]
        exact ⟨fun _ => rfl, fun g => absurd (Or.inl ⟨i, hi, by rw [hp]; simpa using q2⟩) g⟩
    · rw [it_t (by rw [b2_0]; simpa using q)]
      refine ih _ _ ⟨rfl, by rw [hs, pl_R, if_neg q], fun p hp2 => ?_⟩
      by_cases e : p = i
      · subst e
        unfold pl_S
        simp [q]
      · exact y2 p (by omega)
/-- both rows alike -/
theorem pl_alike {B W : Int32} {n4 n1 : Nat} (h4 : n4 ≤ 10) (h1 : n1 ≤ 6) (hB : lowB B n4) (hW : lowB W n1) (f g : Nat → Int32) : agree (ap (bt W) (fun i => 16 + nI i) n1 (ap (bt B) (fun i => 0 + nI i) n4 (f, 0))) (ap (pl_p B W) pl_v 16 (g, 0)) := by
  have e1 : ap (pl_p B W) pl_v 16 (g, 0) = ap (fun i => pl_p B W (10 + i)) (fun i => pl_v (10 + i)) 6 (ap (pl_p B W) pl_v 10 (g, 0)) := ap_shift _ _ _ 10 6
  have e2 : ap (pl_p B W) pl_v 10 (g, 0) = ap (bt B) (fun i => 0 + nI i) 10 (g, 0) := ap_congr 10 (fun i hi => if_pos hi) (fun i hi => by rw [pl_v, if_pos hi]; exact (Int32.zero_add _).symm)
  have e3 : ∀ s, ap (bt B) (fun i => 0 + nI i) 10 s = ap (bt B) (fun i => 0 + nI i) n4 s := fun s => by
    have := ap_none (p := bt B) (v := fun i => 0 + nI i) (s := s) (n := n4) (10 - n4) (fun i a b => hB i a (by omega))
    rw [show n4 + (10 - n4) = 10 by omega] at this
    exact this
  have e4 : ∀ s, ap (fun i => pl_p B W (10 + i)) (fun i => pl_v (10 + i)) 6 s = ap (bt W) (fun i => 16 + nI i) 6 s := fun s => ap_congr 6 (fun i hi => by show (if 10 + i < 10 then _ else bt W (10 + i - 10)) = _; rw [if_neg (by omega), Nat.add_sub_cancel_left]) (fun i hi => by
    show (if 10 + i < 10 then _ else nI (6 + (10 + i))) = _
    rw [if_neg (by omega), ix_la, show 6 + (10 + i) = 16 + i by omega])
  have e5 : ∀ s, ap (bt W) (fun i => 16 + nI i) 6 s = ap (bt W) (fun i => 16 + nI i) n1 s := fun s => by
    have := ap_none (p := bt W) (v := fun i => 16 + nI i) (s := s) (n := n1) (6 - n1) (fun i a b => hW i a (by omega))
    rw [show n1 + (6 - n1) = 6 by omega] at this
    exact this
  rw [e1, e2, e3, e4, e5]
  refine ap_agree (ap_agree ?_ _) _
  exact ⟨rfl, fun i hi => absurd hi (Nat.not_lt_zero i)⟩
theorem sim_pulls (a : Int32) : Sim (fX11_pulls a) (fX12_pulls a) := fun X hX => by
  have w := hX.w
  have ok := w.ok
  have c4 := ok.c4.2
  have c1 := ok.c1.2
  unfold fX11_pulls fX12_pulls
  rw [ca_re]
  have none1 : fX1_workOutPulls a X = some (-1, X) → (ca (fX12_isRoute a) fun v1 => (it (v1 = 0) (re (-1)) (rA 220 469 (229 + a) fun v2 => (it (v2 = 0) (rA 220 469 (116 + a) fun v3 => (it (v3 = 0) (re (-1)) (ca (fX12_hasFull a) fun v4 => (it (v4 = 0) (ca (fX12_wrongPoints a) fun v5 => (ca (fX12_rivals a) fun v6 => (lz2 (fun L63 x7 x8 => (rA 220 469 1 fun v9 => (it (v9 ≤ x8) (ca fX12_busy fun v10 => (lz1 (fun L143 x11 => (rA 220 469 4 fun v12 => (it (v12 ≤ x11) (pI 218 25 0 (lz1 (fun L203 x13 => (it (16 ≤ x13) (gI 218 25 fun v14 => (re v14)) (jo1 (fun w15 => (it (w15 = 0) (L203 (x13 + 1)) (gI 218 25 fun v16 => (it (10 ≤ x13) (wA 227 16 v16 (6 + x13) (gI 218 25 fun v17 => (pI 218 25 (v17 + 1) (L203 (x13 + 1))))) (wA 227 16 v16 x13 (gI 218 25 fun v18 => (pI 218 25 (v18 + 1) (L203 (x13 + 1))))))))) (fun J235 => (it (10 ≤ x13) (ca (fX12_bitOf v5 (x13 - 10)) fun v19 => (J235 v19)) (ca (fX12_bitOf (x7 &&& v10) x13) fun v20 => (J235 v20))))))) FU 0)) (ca (fX12_bitOf (x7 &&& v10) x11) fun v21 => (it (v21 = 0) (L143 (x11 + 1)) (rA 220 469 (229 + x11) fun v22 => (it (v22 = 1) (ca (fX12_isMet x11) fun v23 => (it (v23 = 0) (L143 (x11 + 1)) (re (-1)))) (re (-1))))))))) FU 0)) (ca (fX12_bitOf v5 x8) fun v24 => (it (v24 = 0) (L63 x7 (x8 + 1)) (rA 220 469 (20 + x8) fun v25 => (ca (fX12_showsFull v25) fun v26 => (it (v26 = 0) (ca (fX12_wanting x8 186) fun v27 => (ca (fX12_wanting x8 196) fun v28 => (L63 (x7 ||| (v27 ||| v28)) (x8 + 1)))) (re (-1)))))))))) FU v6 0))) (re (-1)))))) (re (-1)))))) (sI X 218 0 0) = some (-1, sI X 218 0 0) → ∃ v X1 X2, fX1_workOutPulls a X = some (v, X1) ∧ (pI 218 0 0 (ca (fX12_isRoute a) fun v1 => (it (v1 = 0) (re (-1)) (rA 220 469 (229 + a) fun v2 => (it (v2 = 0) (rA 220 469 (116 + a) fun v3 => (it (v3 = 0) (re (-1)) (ca (fX12_hasFull a) fun v4 => (it (v4 = 0) (ca (fX12_wrongPoints a) fun v5 => (ca (fX12_rivals a) fun v6 => (lz2 (fun L63 x7 x8 => (rA 220 469 1 fun v9 => (it (v9 ≤ x8) (ca fX12_busy fun v10 => (lz1 (fun L143 x11 => (rA 220 469 4 fun v12 => (it (v12 ≤ x11) (pI 218 25 0 (lz1 (fun L203 x13 => (it (16 ≤ x13) (gI 218 25 fun v14 => (re v14)) (jo1 (fun w15 => (it (w15 = 0) (L203 (x13 + 1)) (gI 218 25 fun v16 => (it (10 ≤ x13) (wA 227 16 v16 (6 + x13) (gI 218 25 fun v17 => (pI 218 25 (v17 + 1) (L203 (x13 + 1))))) (wA 227 16 v16 x13 (gI 218 25 fun v18 => (pI 218 25 (v18 + 1) (L203 (x13 + 1))))))))) (fun J235 => (it (10 ≤ x13) (ca (fX12_bitOf v5 (x13 - 10)) fun v19 => (J235 v19)) (ca (fX12_bitOf (x7 &&& v10) x13) fun v20 => (J235 v20))))))) FU 0)) (ca (fX12_bitOf (x7 &&& v10) x11) fun v21 => (it (v21 = 0) (L143 (x11 + 1)) (rA 220 469 (229 + x11) fun v22 => (it (v22 = 1) (ca (fX12_isMet x11) fun v23 => (it (v23 = 0) (L143 (x11 + 1)) (re (-1)))) (re (-1))))))))) FU 0)) (ca (fX12_bitOf v5 x8) fun v24 => (it (v24 = 0) (L63 x7 (x8 + 1)) (rA 220 469 (20 + x8) fun v25 => (ca (fX12_showsFull v25) fun v26 => (it (v26 = 0) (ca (fX12_wanting x8 186) fun v27 => (ca (fX12_wanting x8 196) fun v28 => (L63 (x7 ||| (v27 ||| v28)) (x8 + 1)))) (re (-1)))))))))) FU v6 0))) (re (-1)))))) (re (-1))))))) X1 = some (v, X2) ∧ Inv X2 := fun h1 h2 => ⟨-1, X, sI X 218 0 0, h1, h2, hX.thrown⟩
  by_cases c : 0 ≤ a ∧ a < bP X 4 1 4
  · have c' := c
    rw [ok.c4.1] at c
    obtain ⟨r, hr, rfl⟩ := idx_of (by omega) c
    by_cases h1 : bV X 47 1 r = 0
    · by_cases h2 : bP X 4 12 r = 0
      · refine none1 ?_ ?_
        · unfold fX1_workOutPulls
          rw [ca_s (k_has (by decide)), it_f (bz_t c'), k_V (by omega) (by decide) (by decide), it_t h1, k_P (by omega) (by decide) (by decide), it_t h2]
          rfl
        · rw [ca_s (e_isRoute hX.L ok _), it_f (bz_t c'), ix_la, rA_n (by omega) (by decide), hX.S.how hr, it_t h1, ix_la, rA_n (by omega) (by decide), hX.L.r12 hr, it_t h2]
          rfl
      · by_cases h3 : bP X 4 14 r &&& s_showing (bP X 4) (bV X 47) = 0
        · have k := k_pulls hX hr h1 h2 h3
          have e : ∀ Y : X_, Y.1 220 = X.1 220 → (ca (fX12_isRoute (nI r)) fun v1 => (it (v1 = 0) (re (-1)) (rA 220 469 (229 + nI r) fun v2 => (it (v2 = 0) (rA 220 469 (116 + nI r) fun v3 => (it (v3 = 0) (re (-1)) (ca (fX12_hasFull (nI r)) fun v4 => (it (v4 = 0) (ca (fX12_wrongPoints (nI r)) fun v5 => (ca (fX12_rivals (nI r)) fun v6 => (lz2 (fun L63 x7 x8 => (rA 220 469 1 fun v9 => (it (v9 ≤ x8) (ca fX12_busy fun v10 => (lz1 (fun L143 x11 => (rA 220 469 4 fun v12 => (it (v12 ≤ x11) (pI 218 25 0 (lz1 (fun L203 x13 => (it (16 ≤ x13) (gI 218 25 fun v14 => (re v14)) (jo1 (fun w15 => (it (w15 = 0) (L203 (x13 + 1)) (gI 218 25 fun v16 => (it (10 ≤ x13) (wA 227 16 v16 (6 + x13) (gI 218 25 fun v17 => (pI 218 25 (v17 + 1) (L203 (x13 + 1))))) (wA 227 16 v16 x13 (gI 218 25 fun v18 => (pI 218 25 (v18 + 1) (L203 (x13 + 1))))))))) (fun J235 => (it (10 ≤ x13) (ca (fX12_bitOf v5 (x13 - 10)) fun v19 => (J235 v19)) (ca (fX12_bitOf (x7 &&& v10) x13) fun v20 => (J235 v20))))))) FU 0)) (ca (fX12_bitOf (x7 &&& v10) x11) fun v21 => (it (v21 = 0) (L143 (x11 + 1)) (rA 220 469 (229 + x11) fun v22 => (it (v22 = 1) (ca (fX12_isMet x11) fun v23 => (it (v23 = 0) (L143 (x11 + 1)) (re (-1)))) (re (-1))))))))) FU 0)) (ca (fX12_bitOf v5 x8) fun v24 => (it (v24 = 0) (L63 x7 (x8 + 1)) (rA 220 469 (20 + x8) fun v25 => (ca (fX12_showsFull v25) fun v26 => (it (v26 = 0) (ca (fX12_wanting x8 186) fun v27 => (ca (fX12_wanting x8 196) fun v28 => (L63 (x7 ||| (v27 ||| v28)) (x8 + 1)))) (re (-1)))))))))) FU v6 0))) (re (-1)))))) (re (-1)))))) Y = _ := fun Y hY => by
            have hL : RLa (bP X 4) (Y.1 220) := by rw [hY]; exact w.r
            have hS : RS (bP X 4) (bV X 47) (Y.1 220) := by rw [hY]; exact w.s.1
            rw [ca_s (e_isRoute hL ok _), it_f (bz_t c'), ix_la, rA_n (by omega) (by decide), hS.how hr, it_t h1, ix_la, rA_n (by omega) (by decide), hL.r12 hr, it_f h2, ca_s (e_hasFull hL ok w.l.r hS w.v hr), it_t (bz_f (fun q => q h3)), ca_s (e_wrongPoints hL ok hS hr), ca_s (e_rivals hL ok w.l.r hr)]
          by_cases bad : pl_b (bP X 4) (bV X 47) (s_pointsAgainst (bP X 4) (bV X 47) r) r
          · refine none1 (k.1 bad) ?_
            rw [e _ t_220]
            exact (e_pulls hX.L w.l hX.S w.v hr (against_low w.l r hr)).1 bad
          · let X1 : X_ := putR X 142 141 1 (pl_r (bP X 4) (bV X 47) (s_pointsAgainst (bP X 4) (bV X 47) r) r (X.1 142))
            have h220 : (sI X1 218 0 0).1 220 = X.1 220 := by rw [sI_row (by decide)]; exact putR_ne (by decide) (by decide)
            have hL : RLa (bP X 4) ((sI X1 218 0 0).1 220) := by rw [h220]; exact w.r
            have hS : RS (bP X 4) (bV X 47) ((sI X1 218 0 0).1 220) := by rw [h220]; exact w.s.1
            have ag := pl_alike (n4 := ct (bP X 4) 4) (n1 := ct (bP X 4) 1) c4 c1 ((notFree_low (V := bV X 47) ok).and' (x := lo (pl_R (bP X 4) (s_pointsAgainst (bP X 4) (bV X 47) r)) (ct (bP X 4) 1) (s_barring (bP X 4) r))) (against_low (V := bV X 47) w.l r hr) (X.1 142) ((sI X1 218 0 0).1 227)
            have ag : agree (pl_r (bP X 4) (bV X 47) (s_pointsAgainst (bP X 4) (bV X 47) r) r (X.1 142)) (ap (pl_p (pl_B (bP X 4) (bV X 47) (s_pointsAgainst (bP X 4) (bV X 47) r) r) (s_pointsAgainst (bP X 4) (bV X 47) r)) pl_v 16 ((sI X1 218 0 0).1 227, 0)) := ag
            have hle : (ap (pl_p (pl_B (bP X 4) (bV X 47) (s_pointsAgainst (bP X 4) (bV X 47) r) r) (s_pointsAgainst (bP X 4) (bV X 47) r)) pl_v 16 ((sI X1 218 0 0).1 227, 0)).2 ≤ 0 + 16 := (ap_le _ _ ((sI X1 218 0 0).1 227, 0) 16).2
            have hr := (e_pulls hL w.l hS w.v hr (against_low (V := bV X 47) w.l r hr)).2 bad
            refine ⟨_, X1, putR (sI X1 218 0 0) 227 218 25 (ap (pl_p (pl_B (bP X 4) (bV X 47) (s_pointsAgainst (bP X 4) (bV X 47) r) r) (s_pointsAgainst (bP X 4) (bV X 47) r)) pl_v 16 ((sI X1 218 0 0).1 227, 0)), k.2 bad, ?_, ?_⟩
            · rw [pI_e, e _ h220, ag.1]
              exact hr
            · generalize ap (pl_p (pl_B (bP X 4) (bV X 47) (s_pointsAgainst (bP X 4) (bV X 47) r) r) (s_pointsAgainst (bP X 4) (bV X 47) r)) pl_v 16 ((sI X1 218 0 0).1 227, 0) = s2 at ag hle
              have X1r : ∀ q, ¬ q = 141 → ¬ q = 142 → X1.1 q = X.1 q := fun q q1 q2 => putR_ne q2 q1
              have R : ∀ q, ¬ q = 141 → ¬ q = 142 → ¬ q = 218 → ¬ q = 227 → (putR (sI X1 218 0 0) 227 218 25 s2).1 q = X.1 q := fun q q1 q2 q3 q4 => by rw [putR_ne q4 q3, sI_row q3]; exact X1r q q1 q2
              have F : ∀ q, ¬ q = 0 → ¬ q = 25 → (putR (sI X1 218 0 0) 227 218 25 s2).1 218 q = X.1 218 q := fun q q1 q2 => by rw [putR_f (by decide) q2, sI_ne (by omega), X1r 218 (by decide) (by decide)]
              have hc : I_c (putR (sI X1 218 0 0) 227 218 25 s2) := by
                have old := hX.c.2
                have e141 : (putR (sI X1 218 0 0) 227 218 25 s2).1 141 = X1.1 141 := by rw [putR_ne (by decide) (by decide), sI_row (by decide)]
                refine ⟨?_, ?_⟩
                · have a1 : (putR (sI X1 218 0 0) 227 218 25 s2).1 218 25 = nI s2.2 := putR_ck
                  have a2 : (putR (sI X1 218 0 0) 227 218 25 s2).1 142 = X1.1 142 := by rw [putR_ne (by decide) (by decide), sI_row (by decide)]
                  have a3 : (putR (sI X1 218 0 0) 227 218 25 s2).1 227 = s2.1 := putR_row (by decide)
                  rw [e141, a1, a2, a3]
                  refine Or.inr ⟨s2.2, by omega, ?_, rfl, fun i hi => ?_⟩
                  · rw [← ag.1]; exact putR_ck
                  · rw [← ag.2 i (by rw [ag.1]; exact hi)]
                    exact congrFun (putR_row (by decide)) i
                · rw [e141, F 31 (by decide) (by decide), R 143 (by decide) (by decide) (by decide) (by decide), R 230 (by decide) (by decide) (by decide) (by decide), show X1.1 141 3 = X.1 141 3 from putR_f (by decide) (by decide)]
                  exact old
              refine ⟨?_, ?_, ?_, ?_, ?_, ?_, ?_, ?_, ?_, ?_⟩
              · exact hX.t.of (congrFun (by exact R _ (by omega) (by omega) (by omega) (by omega)) 1) (by exact R _ (by omega) (by omega) (by omega) (by omega)) (by exact F _ (by decide) (by decide)) (by exact R _ (by omega) (by omega) (by omega) (by omega))
              · exact hX.k.of (by rfl) (by rfl)
              · exact hX.w.of (fun a ha => by exact R _ (by omega) (by omega) (by omega) (by omega)) (fun a ha => by rfl)
              · exact hX.h.of (fun a ha => by exact R _ (by omega) (by omega) (by omega) (by omega)) (by exact F _ (by decide) (by decide)) rfl
              · exact hX.i.of (fun a ha => by exact R _ (by omega) (by omega) (by omega) (by omega)) (fun a ha => by rfl)
              · exact hX.b.of (by exact R _ (by omega) (by omega) (by omega) (by omega)) (by exact F _ (by decide) (by decide)) (by exact R _ (by omega) (by omega) (by omega) (by omega))
              · exact hc
              · exact hX.f.of (fun a ha => by exact R _ (by omega) (by omega) (by omega) (by omega)) (by exact F _ (by decide) (by decide)) (by exact F _ (by decide) (by decide))
              · exact hX.g.of (fun a ha => by exact R _ (by omega) (by omega) (by omega) (by omega)) (by exact F _ (by decide) (by decide))
              · exact hX.o.of (by exact R _ (by omega) (by omega) (by omega) (by omega)) (by exact F _ (by decide) (by decide)) (by exact F _ (by decide) (by decide)) (by exact F _ (by decide) (by decide))
        · refine none1 ?_ ?_
          · unfold fX1_workOutPulls
            rw [ca_s (k_has (by decide)), it_f (bz_t c'), k_V (by omega) (by decide) (by decide), it_t h1, k_P (by omega) (by decide) (by decide), it_f h2, k_P (by omega) (by decide) (by decide), ca_s (k_showing hX), it_f h3]
            rfl
          · rw [ca_s (e_isRoute hX.L ok _), it_f (bz_t c'), ix_la, rA_n (by omega) (by decide), hX.S.how hr, it_t h1, ix_la, rA_n (by omega) (by decide), hX.L.r12 hr, it_f h2, ca_s (e_hasFull hX.L ok w.l.r hX.S w.v hr), it_f (bz_t h3)]
            rfl
    · refine none1 ?_ ?_
      · unfold fX1_workOutPulls
        rw [ca_s (k_has (by decide)), it_f (bz_t c'), k_V (by omega) (by decide) (by decide), it_f h1]
        rfl
      · rw [ca_s (e_isRoute hX.L ok _), it_f (bz_t c'), ix_la, rA_n (by omega) (by decide), hX.S.how hr, it_f h1]
        rfl
  · refine none1 ?_ ?_
    · unfold fX1_workOutPulls
      rw [ca_s (k_has (by decide)), it_t (bz_f c)]
      rfl
    · rw [ca_s (e_isRoute hX.L ok _), it_t (bz_f c)]
      rfl
end PU
