/-! said: the stacks -/
section SE
variable {P V : m_V} {X : X_}
/-- the stack after i steps: its places, and the trains of each -/
def stk (w : Nat → Int32) (d : Nat → Nat) (lf : Nat → Nat → Bool) : Nat → Nat → Nat → Bool
  | 0 => fun _ _ => false
  | i + 1 => if w i = 23 then fun p t => if p = d i - 1 then !stk w d lf i p t else stk w d lf i p t
    else if w i = 21 then fun p t => if p = d i - 2 then stk w d lf i p t || stk w d lf i (p + 1) t else stk w d lf i p t
    else if w i = 22 then fun p t => if p = d i - 2 then stk w d lf i p t && stk w d lf i (p + 1) t else stk w d lf i p t
    else fun p t => if p = d i then lf i t else stk w d lf i p t
/-- the trains of the i-th step, if it is a plain one -/
def lfQ (P V Q : m_V) (i t : Nat) : Bool := lfL P V ((Q 1 i).toNatClampNeg - 24) (Q 2 i) (Q 3 i) t
def cS (X Y : X_) : Prop := (∀ a, ¬ a = 134 → Y.1 a = X.1 a) ∧ Y.2 = X.2
theorem mask_n {n : Nat} (hn : n ≤ 5) : ∀ t, t < 32 → bt ((1 : Int32) <<< (nI n &&& 31) - 1) t = decide (t < n) := by
  rcases (show n = 0 ∨ n = 1 ∨ n = 2 ∨ n = 3 ∨ n = 4 ∨ n = 5 by omega) with rfl | rfl | rfl | rfl | rfl | rfl <;> decide +kernel
def sdQ (X : X_) (n m : Nat) (s : Nat → Nat → Nat → Bool) (o : Option (Int32 × X_)) : Prop := ∃ M Y, o = some (M, Y) ∧ cS X Y ∧ ∀ t, t < 32 → bt M t = (decide (t < n) && s m 0 t)
theorem k_fitting (hP : bP X 4 = P) (hV : bV X 47 = V) (w : okP P) (hN : wfN P V) {m : Nat} (m1 : 1 ≤ m) (m2 : m ≤ 40) (hm : X.1 130 2 = nI m) {d : Nat → Nat} (d0 : d 0 = 0) (dm : d m = 1)
    (hk : ∀ i, i < m → d i ≤ 20 ∧ ((X.1 131 i = 23 ∧ 1 ≤ d i ∧ d (i + 1) = d i) ∨ ((X.1 131 i = 21 ∨ X.1 131 i = 22) ∧ 2 ≤ d i ∧ d (i + 1) + 1 = d i) ∨ (¬ X.1 131 i = 21 ∧ ¬ X.1 131 i = 22 ∧ ¬ X.1 131 i = 23 ∧ d (i + 1) = d i + 1 ∧ ∃ l, okL P l (X.1 132 i) (X.1 133 i) ∧ X.1 131 i = nI (24 + l)))) :
    sdQ X (ct P 6) m (stk (X.1 131) d (lfQ P V (bQ X 130))) (fX7_trainsFitting X) := by
  have c6 := w.c6.2
  have e6 : ∀ Y, cS X Y → Y.1 (4 + 1) 6 = nI (ct P 6) := fun Y hY => by rw [hY.1 _ (by decide), ← w.c6.1, ← hP]; rfl
  unfold fX7_trainsFitting
  rw [rA_l (by decide) (by decide), e6 X ⟨fun _ _ => rfl, rfl⟩]
  refine lz2_post (n := m) (fun i x Y => x = nI (d i) ∧ cS X Y ∧ ∀ p, p < d i → ∀ t, t < 32 → bt (Y.1 134 p) t = (decide (t < ct P 6) && stk (X.1 131) d (lfQ P V (bQ X 130)) i p t)) (sdQ X (ct P 6) m (stk (X.1 131) d (lfQ P V (bQ X 130)))) (fun x Y L hI => ?_) (fun i x Y L hi hI ih => ?_) m 0 FU 0 X (by omega) (by rw [FU_eq]; omega) ⟨by rw [d0]; rfl, ⟨fun _ _ => rfl, rfl⟩, fun p hp => by omega⟩
  · obtain ⟨rfl, hS, hb⟩ := hI
    rw [gI_e, hS.1 _ (by decide), hm, it_t (nI_le (Nat.le_refl _) (by omega)), rA_l (by decide) (by decide)]
    exact ⟨_, Y, rfl, hS, fun t ht => hb 0 (by omega) t ht⟩
  · obtain ⟨rfl, hS, hb⟩ := hI
    obtain ⟨d20, hc⟩ := hk i hi
    have r1 : ∀ Y, cS X Y → Y.1 (130 + 1) i = X.1 131 i := fun Y hY => by rw [hY.1 _ (by decide)]
    rw [gI_e, hS.1 _ (by decide), hm, it_f (nI_ge hi (by omega)), rA_n (by omega) (by decide), r1 Y hS, jo0_e]
    rcases hc with ⟨h23, h1, hd⟩ | ⟨h2, h1, hd⟩ | ⟨n1, n2, n3, hd, l, okl, hw⟩
    · have n1 : ¬ nI (d i) < 1 := fun e => by have := (nI_ltI (b := 1) (by omega) (by decide)).mp e; omega
      rw [it_t h23, it_f n1, ix_sl h1, rA_n (by omega) (by decide), wA_n (by omega) (by decide), nI_1]
      refine ih _ _ ⟨by rw [hd], ⟨fun a ha => by rw [sI_row (by omega)]; exact hS.1 a ha, hS.2⟩, fun p hp t ht => ?_⟩
      rw [stk, if_pos h23]
      by_cases e : p = d i - 1
      · subst e
        show bt ((sI Y 134 (d i - 1) _).1 134 (d i - 1)) t = _
        rw [sI_eq, b_and, mask_n c6 t ht, b_not ht, if_pos rfl, show Y.1 (130 + 4) (d i - 1) = Y.1 134 (d i - 1) from rfl, hb _ (by omega) t ht]
        cases decide (t < ct P 6) <;> rfl
      · show bt ((sI Y 134 (d i - 1) _).1 134 p) t = _
        rw [sI_ne (by omega), if_neg e]
        exact hb p (by omega) t ht
    · have n2 : ¬ nI (d i) < 2 := fun e => by have := (nI_ltI (b := 2) (by omega) (by decide)).mp e; omega
      have n23 : ¬ X.1 131 i = 23 := by rcases h2 with h | h <;> rw [h] <;> decide
      rw [it_f n23, rA_n (by omega) (by decide), r1 Y hS, jo0_e]
      have s1 : nI (d i - 1) - 1 = nI (d i - 2) := by
        rw [ix_sl (show 1 ≤ d i - 1 by omega)]
        exact congrArg nI (by omega)
      have hd2 : d i - 2 + 1 = d i - 1 := by omega
      rcases h2 with h | h
      · rw [it_f (by rw [h]; decide), rA_n (by omega) (by decide), r1 Y hS, jo0_e, it_t h, it_f n2, nI_dec (by omega), s1, rA_n (by omega) (by decide), rA_n (by omega) (by decide), wA_n (by omega) (by decide), nI_1]
        refine ih _ _ ⟨by rw [show d (i + 1) = d i - 1 by omega], ⟨fun a ha => by rw [sI_row (by omega)]; exact hS.1 a ha, hS.2⟩, fun p hp t ht => ?_⟩
        rw [stk, if_neg n23, if_pos h]
        by_cases e : p = d i - 2
        · subst e
          show bt ((sI Y 134 (d i - 2) _).1 134 (d i - 2)) t = _
          rw [sI_eq, b_or, if_pos rfl, hd2, show Y.1 (130 + 4) (d i - 2) = Y.1 134 (d i - 2) from rfl, show Y.1 (130 + 4) (d i - 1) = Y.1 134 (d i - 1) from rfl, hb _ (by omega) t ht, hb _ (by omega) t ht]
          cases decide (t < ct P 6) <;> rfl
        · show bt ((sI Y 134 (d i - 2) _).1 134 p) t = _
          rw [sI_ne (by omega), if_neg e]
          exact hb p (by omega) t ht
      · rw [it_t h, it_f n2, nI_dec (by omega), s1, rA_n (by omega) (by decide), rA_n (by omega) (by decide), wA_n (by omega) (by decide), nI_1]
        refine ih _ _ ⟨by rw [show d (i + 1) = d i - 1 by omega], ⟨fun a ha => by rw [sI_row (by omega)]; exact hS.1 a ha, hS.2⟩, fun p hp t ht => ?_⟩
        rw [stk, if_neg n23, if_neg (by rw [h]; decide), if_pos h]
        by_cases e : p = d i - 2
        · subst e
          show bt ((sI Y 134 (d i - 2) _).1 134 (d i - 2)) t = _
          rw [sI_eq, b_and, if_pos rfl, hd2, show Y.1 (130 + 4) (d i - 2) = Y.1 134 (d i - 2) from rfl, show Y.1 (130 + 4) (d i - 1) = Y.1 134 (d i - 1) from rfl, hb _ (by omega) t ht, hb _ (by omega) t ht]
          cases decide (t < ct P 6) <;> rfl
        · show bt ((sI Y 134 (d i - 2) _).1 134 p) t = _
          rw [sI_ne (by omega), if_neg e]
          exact hb p (by omega) t ht
    · have n40 : ¬ nI 40 ≤ nI (d i) := nI_ge (by omega) (by decide)
      obtain ⟨M, kM, hM⟩ := k_leaf (X := Y) (P := P) (V := V) (i := i) (l := l) (by rw [← hP]; exact bB_same (fun a h1 h2 => hS.1 a (by omega))) (by rw [← hV]; exact bB_same (fun a h1 h2 => hS.1 a (by omega))) w hN (by omega) (by rw [hS.1 _ (by decide), hS.1 _ (by decide)]; exact okl) (by rw [hS.1 _ (by decide)]; exact hw)
      rw [it_f n3, rA_n (by omega) (by decide), r1 Y hS, jo0_e, it_f n2, rA_n (by omega) (by decide), r1 Y hS, jo0_e, it_f n1, it_f n40, ca_s kM, wA_n (by omega) (by decide), nI_1, nI_1]
      refine ih _ _ ⟨by rw [hd], ⟨fun a ha => by rw [sI_row (by omega)]; exact hS.1 a ha, hS.2⟩, fun p hp t ht => ?_⟩
      rw [stk, if_neg n3, if_neg n1, if_neg n2]
      by_cases e : p = d i
      · subst e
        show bt ((sI Y 134 (d i) _).1 134 (d i)) t = _
        rw [sI_eq, if_pos rfl, hM t ht, hS.1 _ (by decide), hS.1 _ (by decide)]
        have : lfQ P V (bQ X 130) i t = lfL P V l (X.1 132 i) (X.1 133 i) t := by
          show lfL P V ((X.1 131 i).toNatClampNeg - 24) (X.1 132 i) (X.1 133 i) t = _
          rw [hw, nI_clamp (by have := okl.1; omega), Nat.add_sub_cancel_left]
        rw [this]
      · show bt ((sI Y 134 (d i) _).1 134 p) t = _
        rw [sI_ne (by omega), if_neg e]
        exact hb p (by omega) t ht
/-- the reference's, for a train -/
def rSd (X Y : X_) : Prop := (∀ a, ¬ a = 235 → Y.1 a = X.1 a) ∧ Y.2 = X.2
theorem rSd.trans {Y Z : X_} (h : rSd X Y) (h2 : rSd Y Z) : rSd X Z := ⟨fun a ha => (h2.1 a ha).trans (h.1 a ha), h2.2.trans h.2⟩
theorem e_isSaid {Q : m_V} (hL : RLa P (X.1 220)) (w : okP P) (hS : RS P V (X.1 220)) (h7 : X.1 220 282 = V 0 7) {m t : Nat} (ht : t < ct P 6) (m1 : 1 ≤ m) (m2 : m ≤ 40) (hm : X.1 220 288 = nI m) {d : Nat → Nat} (d0 : d 0 = 0) (dm : d m = 1)
    (hk : ∀ i, i < m → d i ≤ 20 ∧ ((Q 1 i = 23 ∧ X.1 220 (289 + 3 * i) = 20 ∧ 1 ≤ d i ∧ d (i + 1) = d i) ∨ (((Q 1 i = 21 ∧ X.1 220 (289 + 3 * i) = 22) ∨ (Q 1 i = 22 ∧ X.1 220 (289 + 3 * i) = 21)) ∧ 2 ≤ d i ∧ d (i + 1) + 1 = d i) ∨ (¬ Q 1 i = 21 ∧ ¬ Q 1 i = 22 ∧ ¬ Q 1 i = 23 ∧ d (i + 1) = d i + 1 ∧ ∃ l, okL P l (Q 2 i) (Q 3 i) ∧ Q 1 i = nI (24 + l) ∧ X.1 220 (289 + 3 * i) = nI l ∧ X.1 220 (290 + 3 * i) = Q 3 i ∧ X.1 220 (291 + 3 * i) = Q 2 i))) :
    ∃ Y, fX12_isSaid (nI t) X = some (b2 (stk (Q 1) d (lfQ P V Q) m 0 t), Y) ∧ rSd X Y := by
  have c6 := w.c6.2
  unfold fX12_isSaid
  refine lz2_post (n := m) (fun i x Y => x = nI (d i) ∧ rSd X Y ∧ ∀ p, p < d i → Y.1 235 p = b2 (stk (Q 1) d (lfQ P V Q) i p t)) (fun o => ∃ Y, o = some (b2 (stk (Q 1) d (lfQ P V Q) m 0 t), Y) ∧ rSd X Y) (fun x Y L hI => ?_) (fun i x Y L hi hI ih => ?_) m 0 FU 0 X (by omega) (by rw [FU_eq]; omega) ⟨by rw [d0]; rfl, ⟨fun _ _ => rfl, rfl⟩, fun p hp => by omega⟩
  · obtain ⟨rfl, hY, hb⟩ := hI
    rw [rA_l (by decide) (by decide), hY.1 _ (by decide), hm, it_t (nI_le (Nat.le_refl _) (by omega)), rA_l (by decide) (by decide), hb 0 (by omega), rz_b]
    exact ⟨Y, rfl, hY⟩
  · obtain ⟨rfl, hY, hb⟩ := hI
    obtain ⟨d20, hc⟩ := hk i hi
    have e0 : (289 : Int32) + 3 * nI i = nI (289 + 3 * i) := by rw [ix_lm, ix_la]
    have r0 : ∀ (F : Int32 → RM Int32), rA 220 469 (289 + 3 * nI i) F Y = F (X.1 220 (289 + 3 * i)) Y := fun F => by rw [e0, rA_n (by omega) (by decide), hY.1 _ (by decide)]
    have keep : ∀ p v, rSd X (sI Y 235 p v) := fun p v => ⟨fun a ha => by rw [sI_row ha]; exact hY.1 a ha, hY.2⟩
    rw [rA_l (by decide) (by decide), hY.1 _ (by decide), hm, it_f (nI_ge hi (by omega)), r0]
    have put : ∀ (p : Nat) (b : Bool), p < 21 → (∀ q, q < d (i + 1) → stk (Q 1) d (lfQ P V Q) (i + 1) q t = if q = p then b else stk (Q 1) d (lfQ P V Q) i q t) → (∀ q, q < d (i + 1) → ¬ q = p → q < d i) → ∃ Y', wZ 235 45 (nI p) (b2 b) (L (nI (d (i + 1))) (nI (i + 1))) Y = some (b2 (stk (Q 1) d (lfQ P V Q) m 0 t), Y') ∧ rSd X Y' := fun p b hp h1 h2 => by
      rw [wZ_n (by omega) (by decide) (b2_01 b)]
      refine ih _ _ ⟨rfl, keep _ _, fun q hq => ?_⟩
      rw [h1 q hq]
      by_cases e : q = p
      · subst e; rw [sI_eq, if_pos rfl]
      · rw [sI_ne (by omega), if_neg e]
        exact hb q (h2 q hq e)
    rcases hc with ⟨h23, hr, h1, hd⟩ | ⟨h2, h1, hd⟩ | ⟨n1, n2, n3, hd, l, okl, hw, r1, r2, r3⟩
    · rw [it_t hr, ix_sl h1, rA_n (by omega) (by decide), hb _ (by omega), nI_1]
      have P1 := put (d i - 1) (!stk (Q 1) d (lfQ P V Q) i (d i - 1) t) (by omega) (fun q hq => by
        rw [stk, if_pos h23]
        by_cases e : q = d i - 1
        · subst e; rw [if_pos rfl]
        · rw [if_neg e, if_neg e]) (fun q hq e => by omega)
      rw [hd] at P1
      cases z : stk (Q 1) d (lfQ P V Q) i (d i - 1) t
      · rw [z] at P1
        rw [it_t (show b2 false = 0 from rfl)]; exact P1
      · rw [z] at P1
        rw [it_f (show ¬ b2 true = 0 by decide)]; exact P1
    · have s1 : nI (d i - 1) - 1 = nI (d i - 2) := by
        rw [ix_sl (show 1 ≤ d i - 1 by omega)]
        exact congrArg nI (by omega)
      have hd2 : d i - 2 + 1 = d i - 1 := by omega
      have hd3 : d (i + 1) = d i - 1 := by omega
      rcases h2 with ⟨h, hr⟩ | ⟨h, hr⟩
      · rw [it_f (by rw [hr]; decide), r0, jo0_e, it_f (by rw [hr]; decide), r0, it_t hr, r0, it_f (by rw [hr]; decide), nI_dec (by omega), s1, rA_n (by omega) (by decide), hb _ (by omega)]
        have P1 := put (d i - 2) (stk (Q 1) d (lfQ P V Q) i (d i - 2) t || stk (Q 1) d (lfQ P V Q) i (d i - 1) t) (by omega) (fun q hq => by
          rw [stk, if_neg (by rw [h]; decide), if_pos h]
          by_cases e : q = d i - 2
          · subst e; rw [if_pos rfl, if_pos rfl, hd2]
          · rw [if_neg e, if_neg e]) (fun q hq e => by omega)
        rw [hd3] at P1
        cases z : stk (Q 1) d (lfQ P V Q) i (d i - 2) t
        · rw [z] at P1
          rw [it_t (show b2 false = 0 from rfl), rA_n (by omega) (by decide), hb _ (by omega), nI_1]
          cases y : stk (Q 1) d (lfQ P V Q) i (d i - 1) t
          · rw [y] at P1
            rw [it_t (show b2 false = 0 from rfl)]; exact P1
          · rw [y] at P1
            rw [it_f (show ¬ b2 true = 0 by decide)]; exact P1
        · rw [z] at P1
          rw [it_f (show ¬ b2 true = 0 by decide), nI_1]; exact P1
      · rw [it_f (by rw [hr]; decide), r0, jo0_e, it_t hr, r0, it_t hr, nI_dec (by omega), s1, rA_n (by omega) (by decide), hb _ (by omega)]
        have P1 := put (d i - 2) (stk (Q 1) d (lfQ P V Q) i (d i - 2) t && stk (Q 1) d (lfQ P V Q) i (d i - 1) t) (by omega) (fun q hq => by
          rw [stk, if_neg (by rw [h]; decide), if_neg (by rw [h]; decide), if_pos h]
          by_cases e : q = d i - 2
          · subst e; rw [if_pos rfl, if_pos rfl, hd2]
          · rw [if_neg e, if_neg e]) (fun q hq e => by omega)
        rw [hd3] at P1
        cases z : stk (Q 1) d (lfQ P V Q) i (d i - 2) t
        · rw [z] at P1
          rw [it_t (show b2 false = 0 from rfl), nI_1]; exact P1
        · rw [z] at P1
          rw [it_f (show ¬ b2 true = 0 by decide), rA_n (by omega) (by decide), hb _ (by omega), nI_1]
          cases y : stk (Q 1) d (lfQ P V Q) i (d i - 1) t
          · rw [y] at P1
            rw [it_t (show b2 false = 0 from rfl)]; exact P1
          · rw [y] at P1
            rw [it_f (show ¬ b2 true = 0 by decide)]; exact P1
    · have h8 := okl.1
      have q : ∀ c, 20 ≤ c → c < 23 → ¬ nI l = nI c := fun c h1 h2 e => by have := (nI_eq (by omega) (by omega)).mp e; omega
      have e1 : (289 : Int32) + 3 * nI i + 1 = nI (290 + 3 * i) := by rw [e0, nI_1]; exact congrArg nI (by omega)
      have e2 : (289 : Int32) + 3 * nI i + 2 = nI (291 + 3 * i) := by rw [e0, ix_al]; exact congrArg nI (by omega)
      have lf := e_leaf (X := Y) (P := P) (V := V) (t := t) (l := l) (th := Q 2 i) (sg := Q 3 i) (by rw [hY.1 _ (by decide)]; exact hL) w (by rw [hY.1 _ (by decide)]; exact hS) (by rw [hY.1 _ (by decide)]; exact h7) ht okl
      rw [r1, it_f (show ¬ nI l = 20 from q 20 (by decide) (by decide)), r0, jo0_e, r1, it_f (show ¬ nI l = 21 from q 21 (by decide) (by decide)), r0, r1, it_f (show ¬ nI l = 22 from q 22 (by decide) (by decide)), r0, r1, e1, rA_n (by omega) (by decide), hY.1 _ (by decide), r2, e2, rA_n (by omega) (by decide), hY.1 _ (by decide), r3, ca_s lf, nI_1, nI_1]
      have P1 := put (d i) (lfL P V l (Q 2 i) (Q 3 i) t) (by omega) (fun q hq => by
          rw [stk, if_neg n3, if_neg n1, if_neg n2]
          by_cases e : q = d i
          · subst e; rw [if_pos rfl, if_pos rfl, lfQ, hw, nI_clamp (by omega), Nat.add_sub_cancel_left]
          · rw [if_neg e, if_neg e]) (fun q hq e => by omega)
      rw [hd] at P1
      exact P1
end SE
