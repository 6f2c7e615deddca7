/-! said: both -/
section SF
variable {P V : m_V} {X : X_}
/-- the a-th of those of which p holds; how many, where a is -1 -/
def rk (p : Nat → Bool) (a : Int32) : Nat → Nat → Int32 → Int32
  | _, 0, x => if a = -1 then x else -1
  | i, m + 1, x => if p i = true then (if x = a then nI i else rk p a (i + 1) m (x + 1)) else rk p a (i + 1) m x
theorem rk_m1 {p : Nat → Bool} : ∀ m i c, c + m < 2 ^ 31 → rk p (-1) i m (nI c) = nI (c + cf p i m) := by
  intro m
  induction m with
  | zero => intro i c _; exact if_pos rfl
  | succ m ih =>
    intro i c h
    have e : cf p i (m + 1) = (if p i = true then 1 else 0) + cf p (i + 1) m := by
      have := cf_split p i 1 m
      rw [show 1 + m = m + 1 by omega] at this
      rw [this, cf, cf, Nat.zero_add, Nat.add_zero]
    rw [rk, e]
    by_cases q : p i = true
    · rw [if_pos q, if_pos q, if_neg (nI_m1 (by omega)), nI_1, ih (i + 1) (c + 1) (by omega), Nat.add_assoc]
    · rw [if_neg q, if_neg q, ih (i + 1) c (by omega), Nat.zero_add]
theorem rk_congr {p q : Nat → Bool} {a : Int32} : ∀ m i x, (∀ j, i ≤ j → j < i + m → p j = q j) → rk p a i m x = rk q a i m x := by
  intro m
  induction m with
  | zero => intro i x _; rfl
  | succ m ih => intro i x h; rw [rk, rk, h i (by omega) (by omega), ih (i + 1) _ (fun j a b => h j (by omega) (by omega)), ih (i + 1) _ (fun j a b => h j (by omega) (by omega))]
theorem sim_said (a : Int32) : Sim (fX11_said a) (fX12_said a) := fun X hX => by
  have w := hX.w
  have ok := w.ok
  have c6 := ok.c6.2
  unfold fX11_said fX12_said
  rcases w.q with ⟨q1, q2⟩ | ⟨q2, m, m1, m2, hm, hm', hq, d, d0, dm, hd⟩
  · refine ⟨-1, X, sI X 218 0 0, ?_, ?_, hX.thrown⟩
    · rw [gI_e, it_t (show X.1 130 0 = 0 from q2)]; rfl
    · rw [pI_e, rA_l (by decide) (by decide), t_220, it_t q1]; rfl
  have v1 : ¬ X.1 130 0 = 0 := by rw [show X.1 130 0 = 1 from q2]; decide
  have v2 : ¬ (sI X 218 0 0).1 220 288 = 0 := by rw [t_220, hm']; exact nI_n0 (by omega) (by omega)
  by_cases c : (-1 : Int32) ≤ a
  · have lf : ∀ i, i < m → ¬ bQ X 130 1 i = 21 → ¬ bQ X 130 1 i = 22 → ¬ bQ X 130 1 i = 23 → ∃ l, okL (bP X 4) l (bQ X 130 2 i) (bQ X 130 3 i) ∧ bQ X 130 1 i = nI (24 + l) ∧ X.1 220 (289 + 3 * i) = nI l := fun i hi n1 n2 n3 => by
      obtain ⟨e1, e2, h | h | h | ⟨l, h8, h1, h2, h3, h4, h5⟩⟩ := hq i hi
      · exact absurd h.1 n1
      · exact absurd h.1 n2
      · exact absurd h.1 n3
      · exact ⟨l, ⟨h8, by rw [e2]; exact h3, by rw [e2]; exact h4, by rw [e1]; exact h5⟩, h1, h2⟩
    have nl : ∀ l c, l < 8 → 20 ≤ c → c < 24 → ¬ nI (24 + l) = nI c := fun l c h1 h2 h3 e => by have := (nI_eq (by omega) (by omega)).mp e; omega
    have cod : ∀ i, i < m → (bQ X 130 1 i = 23 → X.1 220 (289 + 3 * i) = 20) ∧ (bQ X 130 1 i = 21 → X.1 220 (289 + 3 * i) = 22) ∧ (bQ X 130 1 i = 22 → X.1 220 (289 + 3 * i) = 21) := fun i hi => by
      obtain ⟨e1, e2, h | h | h | ⟨l, h8, h1, h2, h3, h4, h5⟩⟩ := hq i hi
      · exact ⟨fun e => by rw [h.1] at e; exact absurd e (by decide), fun _ => h.2, fun e => by rw [h.1] at e; exact absurd e (by decide)⟩
      · exact ⟨fun e => by rw [h.1] at e; exact absurd e (by decide), fun e => by rw [h.1] at e; exact absurd e (by decide), fun _ => h.2⟩
      · exact ⟨fun _ => h.2, fun e => by rw [h.1] at e; exact absurd e (by decide), fun e => by rw [h.1] at e; exact absurd e (by decide)⟩
      · exact ⟨fun e => absurd (h1.symm.trans e) (nl l 23 h8 (by decide) (by decide)), fun e => absurd (h1.symm.trans e) (nl l 21 h8 (by decide) (by decide)), fun e => absurd (h1.symm.trans e) (nl l 22 h8 (by decide) (by decide))⟩
    obtain ⟨M, Y, kf, hY, hM⟩ := k_fitting (X := X) (P := bP X 4) (V := bV X 47) rfl rfl ok w.v m1 m2 hm d0 dm (fun i hi => by
      obtain ⟨d1, d2⟩ := hd i hi
      refine ⟨d1, ?_⟩
      rcases d2 with h | h | ⟨n1, n2, n3, h⟩
      · exact Or.inl h
      · exact Or.inr (Or.inl h)
      · obtain ⟨l, l1, l2, -⟩ := lf i hi n1 n2 n3
        exact Or.inr (Or.inr ⟨n1, n2, n3, h, l, l1, l2⟩))
    generalize hs : stk (X.1 131) d (lfQ (bP X 4) (bV X 47) (bQ X 130)) = s at hM
    have Mlow : lowB M (ct (bP X 4) 6) := fun i h1 hi => by rw [hM i hi, decide_eq_false (by omega)]; rfl
    have Ms : ∀ t, t < ct (bP X 4) 6 → bt M t = s m 0 t := fun t ht => by rw [hM t (by omega), decide_eq_true ht]; rfl
    have comp : (ca fX7_trainsFitting fun v2 => (it (a = (-1)) (ca (fJ6_bitCount_0f7a4 v2) fun v6 => (re v6)) (lz2 (fun L48 x3 x4 => (rA (4 + 1) 8 6 fun v5 => (it (v5 ≤ x4) (re (-1)) (it (((v2 >>> (x4 &&& 31)) &&& 1) = 1) (it (x3 = a) (re x4) (L48 (x3 + 1) (x4 + 1))) (L48 x3 (x4 + 1)))))) FU 0 0))) X = some (rk (s m 0) a 0 (ct (bP X 4) 6) 0, Y) := by
      rw [ca_s kf]
      by_cases e : a = -1
      · subst e
        rw [it_t rfl, ca_s (show fJ6_bitCount_0f7a4 M Y = some (bc M, Y) from rfl), bc_cf (Mlow.mono (by omega)), cf_low (n := ct (bP X 4) 6) (by omega) (fun i h1 h2 => Mlow i h1 (by omega)), cf_congr _ (fun j _ hj => Ms j (by omega))]
        have := rk_m1 (p := s m 0) (ct (bP X 4) 6) 0 0 (by omega)
        rw [Nat.zero_add] at this
        rw [show rk (s m 0) (-1) 0 (ct (bP X 4) 6) 0 = _ from this]
        rfl
      · rw [it_f e]
        have e6 : Y.1 (4 + 1) 6 = nI (ct (bP X 4) 6) := by rw [hY.1 _ (by decide)]; exact ok.c6.1
        have loop : ∀ n i f x, i + n = ct (bP X 4) 6 → n < f → lz2 (fun L48 x3 x4 => (rA (4 + 1) 8 6 fun v5 => (it (v5 ≤ x4) (re (-1)) (it (((M >>> (x4 &&& 31)) &&& 1) = 1) (it (x3 = a) (re x4) (L48 (x3 + 1) (x4 + 1))) (L48 x3 (x4 + 1)))))) f x (nI i) Y = some (rk (s m 0) a i n x, Y) := by
          intro n
          induction n with
          | zero =>
            intro i f x hi hf
            obtain ⟨f, rfl⟩ : ∃ g, f = g + 1 := ⟨f - 1, by omega⟩
            rw [lz2_s, rA_l (by decide) (by decide), e6, it_t (nI_le (by omega) (by omega)), rk, if_neg e]; rfl
          | succ n ih =>
            intro i f x hi hf
            obtain ⟨f, rfl⟩ : ∃ g, f = g + 1 := ⟨f - 1, by omega⟩
            rw [lz2_s, rA_l (by decide) (by decide), e6, it_f (nI_ge (by omega) (by omega)), b_tst (by omega), Ms i (by omega), nI_1, rk]
            cases s m 0 i
            · rw [it_f (show ¬ b2 false = 1 by decide), if_neg (by decide)]
              exact ih (i + 1) f x (by omega) (by omega)
            · rw [it_t (show b2 true = 1 from rfl), if_pos rfl]
              by_cases y : x = a
              · rw [it_t y, if_pos y]; rfl
              · rw [it_f y, if_neg y]
                exact ih (i + 1) f (x + 1) (by omega) (by omega)
        exact loop (ct (bP X 4) 6) 0 FU 0 (by omega) (by rw [FU_eq]; omega)
    have h220 : (sI Y 218 0 0).1 220 = X.1 220 := by rw [sI_row (by decide), hY.1 _ (by decide)]
    have one : ∀ Z t, rSd (sI Y 218 0 0) Z → t < ct (bP X 4) 6 → ∃ Z', fX12_isSaid (nI t) Z = some (b2 (s m 0 t), Z') ∧ rSd (sI Y 218 0 0) Z' := fun Z t hZ ht => by
      have z220 : Z.1 220 = X.1 220 := by rw [hZ.1 _ (by decide), h220]
      obtain ⟨Z', z1, z2⟩ := e_isSaid (X := Z) (P := bP X 4) (V := bV X 47) (Q := bQ X 130) (by rw [z220]; exact w.r) ok (by rw [z220]; exact w.s.1) (by rw [z220]; exact w.s.2) ht m1 m2 (by rw [z220]; exact hm') d0 dm (fun i hi => by
        rw [z220]
        obtain ⟨d1, d2⟩ := hd i hi
        obtain ⟨k1, k2, k3⟩ := cod i hi
        refine ⟨d1, ?_⟩
        rcases d2 with h | ⟨h | h, h'⟩ | ⟨n1, n2, n3, h⟩
        · exact Or.inl ⟨h.1, k1 h.1, h.2⟩
        · exact Or.inr (Or.inl ⟨Or.inl ⟨h, k2 h⟩, h'⟩)
        · exact Or.inr (Or.inl ⟨Or.inr ⟨h, k3 h⟩, h'⟩)
        · obtain ⟨l, l1, l2, l3⟩ := lf i hi n1 n2 n3
          obtain ⟨e1, e2, -⟩ := hq i hi
          exact Or.inr (Or.inr ⟨n1, n2, n3, h, l, l1, l2, l3, e1.symm, e2.symm⟩))
      refine ⟨Z', ?_, hZ.trans z2⟩
      rw [z1, ← hs]
      rfl
    have refr : ∃ Z, (lz2 (fun L27 x2 x3 => (rA 220 469 6 fun v4 => (it (v4 ≤ x3) (it (a = (-1)) (re x2) (re (-1))) (ca (fX12_isSaid x3) fun v5 => (it (v5 = 0) (L27 x2 (x3 + 1)) (it (x2 = a) (re x3) (L27 (x2 + 1) (x3 + 1)))))))) FU 0 0) (sI Y 218 0 0) = some (rk (s m 0) a 0 (ct (bP X 4) 6) 0, Z) ∧ rSd (sI Y 218 0 0) Z := by
      have loop : ∀ n i f x Z, i + n = ct (bP X 4) 6 → n < f → rSd (sI Y 218 0 0) Z → ∃ Z', lz2 (fun L27 x2 x3 => (rA 220 469 6 fun v4 => (it (v4 ≤ x3) (it (a = (-1)) (re x2) (re (-1))) (ca (fX12_isSaid x3) fun v5 => (it (v5 = 0) (L27 x2 (x3 + 1)) (it (x2 = a) (re x3) (L27 (x2 + 1) (x3 + 1)))))))) f x (nI i) Z = some (rk (s m 0) a i n x, Z') ∧ rSd (sI Y 218 0 0) Z' := by
        intro n
        induction n with
        | zero =>
          intro i f x Z hi hf hZ
          obtain ⟨f, rfl⟩ : ∃ g, f = g + 1 := ⟨f - 1, by omega⟩
          have e6 : Z.1 220 6 = nI (ct (bP X 4) 6) := by rw [hZ.1 _ (by decide), h220]; exact w.r.n6 ok
          refine ⟨Z, ?_, hZ⟩
          rw [lz2_s, rA_l (by decide) (by decide), e6, it_t (nI_le (by omega) (by omega)), rk]
          by_cases e : a = -1
          · rw [it_t e, if_pos e]; rfl
          · rw [it_f e, if_neg e]; rfl
        | succ n ih =>
          intro i f x Z hi hf hZ
          obtain ⟨f, rfl⟩ : ∃ g, f = g + 1 := ⟨f - 1, by omega⟩
          have e6 : Z.1 220 6 = nI (ct (bP X 4) 6) := by rw [hZ.1 _ (by decide), h220]; exact w.r.n6 ok
          obtain ⟨Z', z1, z2⟩ := one Z i hZ (by omega)
          rw [lz2_s, rA_l (by decide) (by decide), e6, it_f (nI_ge (by omega) (by omega)), ca_s z1, nI_1, rk]
          cases s m 0 i
          · rw [it_t (show b2 false = 0 from rfl), if_neg (by decide)]
            exact ih (i + 1) f x Z' (by omega) (by omega) z2
          · rw [it_f (show ¬ b2 true = 0 by decide), if_pos rfl]
            by_cases y : x = a
            · rw [it_t y, if_pos y]
              exact ⟨Z', rfl, z2⟩
            · rw [it_f y, if_neg y]
              exact ih (i + 1) f (x + 1) Z' (by omega) (by omega) z2
      exact loop (ct (bP X 4) 6) 0 FU 0 _ (by omega) (by rw [FU_eq]; omega) ⟨fun _ _ => rfl, rfl⟩
    obtain ⟨Z, z1, z2⟩ := refr
    refine ⟨rk (s m 0) a 0 (ct (bP X 4) 6) 0, Y, Z, ?_, ?_, ?_⟩
    · rw [gI_e, it_f v1, it_t c]; exact comp
    · rw [pI_e, rA_l (by decide) (by decide), h220, ← t_220 (v := 0), it_f v2, it_t c]; exact z1
    · have R : ∀ q, ¬ q = 134 → ¬ q = 218 → ¬ q = 235 → Z.1 q = X.1 q := fun q q1 q2 q3 => by rw [z2.1 q q3, sI_row q2, hY.1 q q1]
      have F : ∀ q, ¬ q = 0 → Z.1 218 q = X.1 218 q := fun q q1 => by rw [z2.1 218 (by decide), sI_ne (by omega), hY.1 218 (by decide)]
      have E2 : Z.2 = X.2 := by rw [z2.2]; exact hY.2
      have J : ∀ q, Z.2.1 q = X.2.1 q := fun q => by rw [E2]
      have hw : I_w Z := by
        refine Wd.congr hX.w ?_ ?_ ?_ ?_ (fun j hj => by rw [R 220 (by decide) (by decide) (by decide)]) (fun j hj => by rw [J])
        · rw [show bP Z 4 = bP X 4 from bB_same (fun a h1 h2 => R a (by omega) (by omega) (by omega))]; exact eqP.refl
        · rw [show bPJ Z 4 = bPJ X 4 from bL_same (fun a h1 h2 => J a)]; exact eqN.refl
        · rw [show bV Z 47 = bV X 47 from bB_same (fun a h1 h2 => R a (by omega) (by omega) (by omega))]; exact eqV.refl
        · refine ⟨congrFun (R 130 (by decide) (by decide) (by decide)) 0, congrFun (R 130 (by decide) (by decide) (by decide)) 2, fun i hi => ⟨congrFun (R 131 (by decide) (by decide) (by decide)) i, congrFun (R 132 (by decide) (by decide) (by decide)) i, congrFun (R 133 (by decide) (by decide) (by decide)) i⟩⟩
      refine ⟨?_, ?_, ?_, ?_, ?_, ?_, ?_, ?_, ?_, ?_⟩
      · exact hX.t.of (congrFun (by exact R _ (by omega) (by omega) (by omega)) 1) (by exact R _ (by omega) (by omega) (by omega)) (by exact F _ (by decide)) (by exact R _ (by omega) (by omega) (by omega))
      · exact hX.k.of (by exact J _) (by exact J _)
      · exact hw
      · exact hX.h.of (fun a ha => by exact R _ (by omega) (by omega) (by omega)) (by exact F _ (by decide)) (by rw [E2])
      · exact hX.i.of (fun a ha => by exact R _ (by omega) (by omega) (by omega)) (fun a ha => by exact J _)
      · exact hX.b.of (by exact R _ (by omega) (by omega) (by omega)) (by exact F _ (by decide)) (by exact R _ (by omega) (by omega) (by omega))
      · exact hX.c.of (fun a ha => by exact R _ (by omega) (by omega) (by omega)) (by exact F _ (by decide)) (by exact F _ (by decide))
      · exact hX.f.of (fun a ha => by exact R _ (by omega) (by omega) (by omega)) (by exact F _ (by decide)) (by exact F _ (by decide))
      · exact hX.g.of (fun a ha => by exact R _ (by omega) (by omega) (by omega)) (by exact F _ (by decide))
      · exact hX.o.of (by exact R _ (by omega) (by omega) (by omega)) (by exact F _ (by decide)) (by exact F _ (by decide)) (by exact F _ (by decide))
  · refine ⟨-1, X, sI X 218 0 0, ?_, ?_, hX.thrown⟩
    · rw [gI_e, it_f v1, it_f c]; rfl
    · rw [pI_e, rA_l (by decide) (by decide), it_f v2, it_f c]; rfl
end SF
