/-! the component's way: one route after another into a round -/
section PR
variable {P : m_V} {X : X_}
theorem KP_sym (P : m_V) (r q : Nat) : KP P r q = KP P q r := by
  have e : p_conflict P r q = p_conflict P q r := by
    unfold p_conflict
    have a1 : decide (P 11 r = P 11 q) = decide (P 11 q = P 11 r) := by rw [decide_eq_decide]; exact eq_comm
    rw [a1, Int32.and_comm (P 14 r), Int32.and_comm (P 15 r), Int32.and_comm (P 16 r)]
    simp only [Bool.or_assoc, Bool.or_comm, Bool.or_left_comm]
  unfold KP
  rw [e]
  have : decide (q ≠ r) = decide (r ≠ q) := by rw [decide_eq_decide]; exact ne_comm
  rw [this]
/-- c goes on as a colouring of all with m classes -/
def xt (P : m_V) (c : Nat → Nat) (r m : Nat) : Prop := ∃ c' : Nat → Nat, (∀ q, q < r → c' q = c q) ∧ (∀ q, q < ct P 4 → c' q < m) ∧ ∀ q q', q < ct P 4 → q' < ct P 4 → KP P q q' = true → ¬ c' q = c' q'
def tR (c : Nat → Nat) (r : Nat) (f : Nat → Int32) : Nat → Int32 := fun k => if k < 10 then bo (fun q => decide (c q = k)) r else f k
theorem tR_add {c : Nat → Nat} {r k : Nat} {f : Nat → Int32} (hk : k < 10) (hr : r < 10) : upS (tR c r f) k (tR c r f k ||| (1 <<< (nI r &&& 31))) = tR (uN c r k) (r + 1) f := by
  funext j
  have same : ∀ i, bo (fun q => decide (uN c r k q = i)) r = bo (fun q => decide (c q = i)) r := fun i => bo_congr r (fun q hq => by rw [uN_ne (by omega)])
  by_cases e : j = k
  · subst e
    rw [upS_eq]
    unfold tR
    rw [if_pos hk, if_pos hk, bo, uN_eq, if_pos (decide_eq_true rfl), same]
  · rw [upS_ne e]
    unfold tR
    by_cases d : j < 10
    · rw [if_pos d, if_pos d, bo, uN_eq, if_neg (show ¬ decide (k = j) = true from fun z => e (of_decide_eq_true z).symm), same]
    · rw [if_neg d, if_neg d]
theorem tR_sub {c : Nat → Nat} {r k : Nat} {f : Nat → Int32} (hk : k < 10) (hr : r < 10) : upS (tR (uN c r k) (r + 1) f) k (tR (uN c r k) (r + 1) f k &&& ((1 <<< (nI r &&& 31)) ^^^ -1)) = tR c r f := by
  rw [← tR_add hk hr, upS_upd, upS_eq]
  refine upS_self ?_
  unfold tR
  rw [if_pos hk]
  refine b_ext (fun i hi => ?_)
  rw [b_and, b_or, b_not hi, b_bit (by omega) hi, b_bo _ _ (by omega) i hi]
  by_cases e : i = r
  · subst e; simp
  · simp [e]
/-- the test of a round -/
theorem tR_tst {c : Nat → Nat} {r k : Nat} {f : Nat → Int32} (w : okP P) (hC : wfC P) (hk : k < 10) (hr : r < ct P 4) : (tR c r f k &&& P 18 r = 0) ↔ ∀ q, q < r → c q = k → KP P r q = false := by
  have c4 := w.c4.2
  unfold tR
  rw [if_pos hk, b_and0]
  constructor
  · intro h q hq e
    cases z : KP P r q
    · rfl
    · exfalso
      refine h q (by omega) ⟨?_, ?_⟩
      · rw [b_bo _ _ (by omega) q (by omega)]
        simp [hq, e]
      · rw [hC r hr, b_bo _ _ (by omega) q (by omega), decide_eq_true (show q < ct P 4 by omega), Bool.true_and]
        exact z
  · rintro h i hi ⟨a, b⟩
    rw [b_bo _ _ (by omega) i hi, Bool.and_eq_true] at a
    have := h i (of_decide_eq_true a.1) (of_decide_eq_true a.2)
    rw [hC r hr, b_bo _ _ (by omega) i hi, Bool.and_eq_true] at b
    rw [show KP P r i = true from b.2] at this
    exact absurd this (by decide)
/-- what placeRoute answers -/
def plc (P : m_V) (c : Nat → Nat) (r u b v : Nat) : Prop := v ≤ b ∧ (v < b → xt P c r v) ∧ ∀ m, u ≤ m → xt P c r m → v ≤ m
/-- a round that stands behind the used ones may be called the next -/
theorem xt_swap {c : Nat → Nat} {r u m : Nat} (hc : ∀ q, q < r → c q < u) (h : xt P c r m) (hr : r < ct P 4) : (∃ k, k < u ∧ (∀ q, q < r → c q = k → KP P r q = false) ∧ xt P (uN c r k) (r + 1) m) ∨ (u + 1 ≤ m ∧ xt P (uN c r u) (r + 1) m) := by
  obtain ⟨c', h1, h2, h3⟩ := h
  by_cases e : c' r < u
  · refine Or.inl ⟨c' r, e, fun q hq z => ?_, c', fun q hq => ?_, h2, h3⟩
    · cases y : KP P r q
      · rfl
      · exact absurd (by rw [h1 q hq, z]) (h3 r q hr (by omega) y)
    · by_cases d : q = r
      · subst d; rw [uN_eq]
      · rw [uN_ne d]; exact h1 q (by omega)
  · have m1 := h2 r hr
    refine Or.inr ⟨by omega, fun q => if c' q = u then c' r else if c' q = c' r then u else c' q, fun q hq => ?_, fun q hq => ?_, fun q q' hq hq' z => ?_⟩
    · dsimp only
      by_cases d : q = r
      · subst d
        rw [uN_eq]
        by_cases y : c' q = u
        · rw [if_pos y]; exact y
        · rw [if_neg y, if_pos rfl]
      · have := hc q (by omega)
        have h1q := h1 q (by omega)
        rw [uN_ne d, if_neg (by omega), if_neg (by omega)]
        exact h1q
    · dsimp only
      have := h2 q hq
      split
      · exact m1
      · split <;> omega
    · have := h3 q q' hq hq' z
      dsimp only
      split <;> split <;> (try split) <;> (try split) <;> omega
theorem e_place (w : okP P) (hC : wfC P) (f : Nat → Int32) (hX : bP X 4 = P) : ∀ d n r u b c, r + d = ct P 4 → d < n → u ≤ r → b ≤ 11 → (∀ q, q < r → c q < u) → (∀ q q', q < r → q' < r → KP P q q' = true → ¬ c q = c q') → ∃ v, fP n (nI r) (nI u) (nI b) (setR X 145 (tR c r f)) = some (nI v, setR X 145 (tR c r f)) ∧ plc P c r u b v := by
  have c4 := w.c4.2
  have hP : ∀ g : Nat → Int32, bP (setR X 145 g) 4 = P := fun g => by
    rw [← hX]
    exact bB_same (fun a _ h2 => setR_ne (by omega))
  intro d
  induction d with
  | zero =>
    intro n r u b c hr hn hu hb hc hp
    obtain ⟨n, rfl⟩ : ∃ m, n = m + 1 := ⟨n - 1, by omega⟩
    obtain rfl : r = ct P 4 := by omega
    rw [fP, gX1_placeRoute]
    by_cases e : u < b
    · rw [it_t ((nI_ltI (by omega) (by omega)).mpr e), k_Pl (by decide) (by decide) (by decide), hP, w.c4.1, it_f (nI_nlt (Nat.le_refl _) (by omega))]
      exact ⟨u, rfl, by omega, fun _ => ⟨c, fun _ _ => rfl, hc, hp⟩, fun m hm _ => hm⟩
    · rw [it_f (nI_nlt (by omega) (by omega))]
      exact ⟨b, rfl, Nat.le_refl _, fun z => absurd z (by omega), fun m hm _ => by omega⟩
  | succ d ihd =>
    intro n r u b c hr hn hu hb hc hp
    obtain ⟨n, rfl⟩ : ∃ m, n = m + 1 := ⟨n - 1, by omega⟩
    rw [fP, gX1_placeRoute]
    by_cases e : u < b
    · rw [it_t ((nI_ltI (by omega) (by omega)).mpr e), k_Pl (by decide) (by decide) (by decide), hP, w.c4.1, it_t ((nI_ltI (by omega) (by omega)).mpr (by omega))]
      refine lz2_post (n := u + 1) (fun i a Z => Z = setR X 145 (tR c r f) ∧ ∃ v, a = nI v ∧ v ≤ b ∧ (v < b → xt P c r v) ∧ ∀ k, k < i → (∀ q, q < r → c q = k → KP P r q = false) → ∀ m, u ≤ m → (k = u → u + 1 ≤ m) → xt P (uN c r k) (r + 1) m → v ≤ m) (fun o => ∃ v, o = some (nI v, setR X 145 (tR c r f)) ∧ plc P c r u b v) (fun a Z L hI => ?_) (fun i a Z L hi hI ih => ?_) (u + 1) 0 FU (nI b) (setR X 145 (tR c r f)) (by omega) (by rw [FU_eq]; omega) ⟨rfl, b, rfl, Nat.le_refl _, fun z => absurd z (by omega), fun k hk => absurd hk (by omega)⟩
      · obtain ⟨rfl, v, rfl, v1, v2, v3⟩ := hI
        rw [it_t ((nI_ltI (by omega) (by omega)).mpr (by omega))]
        refine ⟨v, rfl, v1, v2, fun m hm hx => ?_⟩
        rcases xt_swap hc hx (by omega) with ⟨k, k1, k2, k3⟩ | ⟨k1, k2⟩
        · exact v3 k (by omega) k2 m hm (fun z => by omega) k3
        · exact v3 u (by omega) (fun q hq z => by have := hc q hq; omega) m hm (fun _ => k1) k2
      · obtain ⟨rfl, v, rfl, v1, v2, v3⟩ := hI
        have i10 : i < 10 := by omega
        rw [it_f (nI_nlt (by omega) (by omega)), it_f (nI_ge i10 (by decide)), rA_n i10 (by decide), setR_eq, k_P (show r < 10 by omega) (by decide) (by decide), hP]
        by_cases t : tR c r f i &&& P 18 r = 0
        · have ht := (tR_tst w hC i10 (by omega)).mp t
          rw [it_t t, rA_n i10 (by decide), setR_eq, wA_n i10 (by decide), setR_s, tR_add i10 (by omega)]
          have hcc : ∀ u', (i < u') → u ≤ u' → ∀ q, q < r + 1 → uN c r i q < u' := fun u' h1 h2 q hq => by
            by_cases z : q = r
            · subst z; rw [uN_eq]; exact h1
            · rw [uN_ne z]; have := hc q (by omega); omega
          have hpp : ∀ q q', q < r + 1 → q' < r + 1 → KP P q q' = true → ¬ uN c r i q = uN c r i q' := fun q q' hq hq' z => by
            by_cases y : q = r
            · subst y
              rw [uN_eq]
              by_cases y' : q' = q
              · subst y'; rw [KP_irr] at z; exact absurd z (by decide)
              · rw [uN_ne y']
                intro x
                rw [ht q' (by omega) x.symm] at z
                exact absurd z (by decide)
            · rw [uN_ne y]
              by_cases y' : q' = r
              · subst y'
                rw [uN_eq]
                intro x
                rw [KP_sym, ht q (by omega) x] at z
                exact absurd z (by decide)
              · rw [uN_ne y']; exact hp q q' (by omega) (by omega) z
          have fin : ∀ u', i < u' → u ≤ u' → u' ≤ r + 1 → (i = u → u' = u + 1) → (i < u → u' = u) → ∃ v', (ca (fP n (nI (r + 1)) (nI u') (nI v)) fun v9 => (rA 145 10 (nI i) fun v10 => (wA 145 10 (nI i) (v10 &&& ((1 <<< (nI r &&& 31)) ^^^ (-1))) (L v9 (nI i + 1))))) (setR X 145 (tR (uN c r i) (r + 1) f)) = L (nI v') (nI (i + 1)) (setR X 145 (tR c r f)) ∧ v' ≤ v ∧ (v' < v → xt P c r v') ∧ ∀ m, u' ≤ m → xt P (uN c r i) (r + 1) m → v' ≤ m := fun u' h1 h2 h3 h4 h5 => by
            obtain ⟨v', a1, a2, a3, a4⟩ := ihd n (r + 1) u' v (uN c r i) (by omega) (by omega) h3 (by omega) (hcc u' h1 h2) hpp
            refine ⟨v', ?_, a2, fun z => ?_, a4⟩
            · rw [ca_s a1, rA_n i10 (by decide), setR_eq, wA_n i10 (by decide), setR_s, tR_sub i10 (by omega), nI_1]
            · obtain ⟨c', x1, x2, x3⟩ := a3 z
              exact ⟨c', fun q hq => by rw [x1 q (by omega), uN_ne (by omega)], x2, x3⟩
          rw [jo2_e]
          dsimp only
          have done : ∀ v', v' ≤ v → (v' < v → xt P c r v') → (∀ m, (if i = u then u + 1 else u) ≤ m → xt P (uN c r i) (r + 1) m → v' ≤ m) → ∃ v0, nI v' = nI v0 ∧ v0 ≤ b ∧ (v0 < b → xt P c r v0) ∧ ∀ k, k < i + 1 → (∀ q, q < r → c q = k → KP P r q = false) → ∀ m, u ≤ m → (k = u → u + 1 ≤ m) → xt P (uN c r k) (r + 1) m → v0 ≤ m := fun v' g1 g2 g3 => by
            refine ⟨v', rfl, by omega, fun z => ?_, fun k hk hk2 m hm hm2 hx => ?_⟩
            · by_cases y : v' < v
              · exact g2 y
              · obtain rfl : v' = v := by omega
                exact v2 z
            · by_cases y : k = i
              · subst y
                refine g3 m ?_ hx
                split
                · next y => exact hm2 y
                · exact hm
              · have := v3 k (by omega) hk2 m hm hm2 hx
                omega
          by_cases iu : i = u
          · rw [it_t (by rw [iu]), nI_1, nI_1]
            obtain ⟨v', g1, g2, g3, g4⟩ := fin (u + 1) (by omega) (by omega) (by omega) (fun _ => rfl) (fun z => by omega)
            rw [g1]
            exact ih _ _ ⟨rfl, done v' g2 g3 (by rw [if_pos iu]; exact g4)⟩
          · rw [it_f (fun z => iu ((nI_eq (by omega) (by omega)).mp z)), nI_1]
            obtain ⟨v', g1, g2, g3, g4⟩ := fin u (by omega) (by omega) (by omega) (fun z => absurd z iu) (fun _ => rfl)
            rw [g1]
            exact ih _ _ ⟨rfl, done v' g2 g3 (by rw [if_neg iu]; exact g4)⟩
        · rw [it_f t, nI_1]
          refine ih _ _ ⟨rfl, v, rfl, v1, v2, fun k hk hk2 => ?_⟩
          by_cases y : k = i
          · subst y; exact absurd ((tR_tst w hC i10 (by omega)).mpr hk2) t
          · exact v3 k (by omega) hk2
    · rw [it_f (nI_nlt (by omega) (by omega))]
      exact ⟨b, rfl, Nat.le_refl _, fun z => absurd z (by omega), fun m hm _ => by omega⟩
theorem e_countRounds (w : okP P) (hC : wfC P) (hX : bP X 4 = P) : ∃ v g, fX1_countRounds X = some (nI v, setR X 145 g) ∧ FN (KP P) (ct P 4) (2 ^ ct P 4 - 1) v := by
  have c4 := w.c4.2
  obtain ⟨v, e1, e2, e3, e4⟩ := e_place (X := X) w hC (X.1 145) hX (ct P 4) 14 0 0 (ct P 4 + 1) (fun _ => 0) (by omega) (by omega) (Nat.le_refl _) (by omega) (fun q hq => by omega) (fun q q' hq => by omega)
  refine ⟨v, tR (fun _ => 0) 0 (X.1 145), ?_, ?_⟩
  · unfold fX1_countRounds
    have hf : fJ7_fill_53178 145 10 0 X = some ((), setR X 145 (tR (fun _ => 0) 0 (X.1 145))) := rfl
    have hP : bP (setR X 145 (tR (fun _ => 0) 0 (X.1 145))) 4 = P := by
      rw [← hX]
      exact bB_same (fun a _ h2 => setR_ne (by omega))
    rw [ca_s hf, k_Pl (by decide) (by decide) (by decide), hP, w.c4.1, nI_1]
    refine (ca_s (w := nI v) (X' := setR X 145 (tR (fun _ => 0) 0 (X.1 145))) ?_).trans rfl
    exact e1
  · have all : ∀ q, q < ct P 4 → (2 ^ ct P 4 - 1).testBit q = true := fun q hq => by
      rw [Nat.testBit_two_pow_sub_one]
      exact decide_eq_true hq
    have le : v ≤ ct P 4 := e4 (ct P 4) (Nat.zero_le _) ⟨fun q => q, fun q hq => by omega, fun q hq => hq, fun q q' _ _ z y => by
      have y : q = q' := y
      subst y; rw [KP_irr] at z; exact absurd z (by decide)⟩
    constructor
    · obtain ⟨c', -, x2, x3⟩ := e3 (by omega)
      exact ⟨c', fun r hr _ => x2 r hr, fun r q hr hq _ _ z => x3 r q hr hq z⟩
    · rintro k ⟨c', x1, x2⟩
      exact e4 k (Nat.zero_le _) ⟨c', fun q hq => by omega, fun q hq => x1 q hq (all q hq), fun q q' hq hq' z => x2 q q' hq hq' (all q hq) (all q' hq') z⟩
theorem sim_rounds : Sim fX11_rounds fX12_rounds := fun X hX => by
  have w := hX.w
  have ok := w.ok
  have c4 := ok.c4.2
  obtain ⟨v, g, e1, e2⟩ := e_countRounds (X := X) ok w.c rfl
  have h220 : (sI (setR X 145 g) 218 0 0).1 220 = X.1 220 := by rw [sI_row (by decide)]; exact setR_ne (by decide)
  have hL : RLa (bP X 4) ((sI (setR X 145 g) 218 0 0).1 220) := by rw [h220]; exact w.r
  obtain ⟨a, D, f1, f2, f3⟩ := e_dp2 (X := sI (setR X 145 g) 218 0 0) ok w.c ((sI (setR X 145 g) 218 0 0).1 228)
  have va : v = a := Nat.le_antisymm (e2.2 a f2.1) (f2.2 v e2.1)
  subst va
  refine ⟨nI v, setR X 145 g, setR (sI (setR X 145 g) 218 0 0) 228 (rT (ct (bP X 4) 4) D ((sI (setR X 145 g) 218 0 0).1 228)), ?_, ?_, ?_⟩
  · unfold fX11_rounds
    rw [ca_s e1]; rfl
  · unfold fX12_rounds
    rw [pI_e, rA_l (by decide) (by decide), hL.n4 ok, e_dp1 hL ok w.l.r w.c]
    exact f1
  · generalize hZ : setR (sI (setR X 145 g) 218 0 0) 228 (rT (ct (bP X 4) 4) D ((sI (setR X 145 g) 218 0 0).1 228)) = Z
    have R : ∀ q, ¬ q = 145 → ¬ q = 218 → ¬ q = 228 → Z.1 q = X.1 q := fun q q1 q2 q3 => by rw [← hZ, setR_ne q3, sI_row q2]; exact setR_ne q1
    have F : ∀ q, ¬ q = 0 → Z.1 218 q = X.1 218 q := fun q q0 => by rw [← hZ, setR_ne (by decide), sI_ne (by omega)]; exact congrFun (setR_ne (by decide)) q
    have J : Z.2 = X.2 := by rw [← hZ]; rfl
    refine ⟨?_, ?_, ?_, ?_, ?_, ?_, ?_, ?_, ?_, ?_⟩
    · exact hX.t.of (congrFun (by exact R _ (by omega) (by omega) (by omega)) 1) (by exact R _ (by omega) (by omega) (by omega)) (by exact F _ (by decide)) (by exact R _ (by omega) (by omega) (by omega))
    · exact hX.k.of (by rw [J]) (by rw [J])
    · exact hX.w.of (fun a ha => by exact R _ (by omega) (by omega) (by omega)) (fun a ha => by rw [J])
    · exact hX.h.of (fun a ha => by exact R _ (by omega) (by omega) (by omega)) (by exact F _ (by decide)) (by rw [J])
    · exact hX.i.of (fun a ha => by exact R _ (by omega) (by omega) (by omega)) (fun a ha => by rw [J])
    · exact hX.b.of (by exact R _ (by omega) (by omega) (by omega)) (by exact F _ (by decide)) (by exact R _ (by omega) (by omega) (by omega))
    · exact hX.c.of (fun a ha => by exact R _ (by omega) (by omega) (by omega)) (by exact F _ (by decide)) (by exact F _ (by decide))
    · exact hX.f.of (fun a ha => by exact R _ (by omega) (by omega) (by omega)) (by exact F _ (by decide)) (by exact F _ (by decide))
    · exact hX.g.of (fun a ha => by exact R _ (by omega) (by omega) (by omega)) (by exact F _ (by decide))
    · exact hX.o.of (by exact R _ (by omega) (by omega) (by omega)) (by exact F _ (by decide)) (by exact F _ (by decide)) (by exact F _ (by decide))
end PR
