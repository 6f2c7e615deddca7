/-! signals, trains, hold, locks -/
section LM
variable {X Y X1 Y1 X0 Y0 : X_} {n p : Nat}
theorem kw_b : c8 (kwds.getD 9 []) = 121424940196204 ∧ c8 (kwds.getD 10 []) = 32199706527560549 ∧ c8 (kwds.getD 11 []) = 1685026670 ∧ c8 (kwds.getD 12 []) = 30064 := by decide +kernel
/-- which way -/
theorem r_way (K : TK X Y) : (∃ y : Int32, (y = 0 ∨ y = 1) ∧ k_tw 11 X = some (y, X) ∧ fX12_wayWord Y = some (y, Y)) ∨ (k_tw 11 X = some (-1, wX X 1) ∧ fX12_wayWord Y = some (-1, Y)) := by
  unfold fX12_wayWord
  rw [ca_s (e_isWord K (k := 11) (by decide) kw_b.2.2.1.symm)]
  rcases k_tw_cases K (j := 11) (w := 11) rfl (by decide) with ⟨e, t⟩ | ⟨e, t⟩ | ⟨e1, e2, t⟩
  · rw [decide_eq_true e, it_f (show ¬ b2 true = 0 by decide)]
    exact Or.inl ⟨0, Or.inl rfl, t, rfl⟩
  · rw [decide_eq_false (fun z => by rw [e] at z; exact absurd ((nI_eq (by omega) (by omega)).mp z) (by omega)), it_t (show b2 false = 0 from rfl), ca_s (e_isWord K (k := 12) (by decide) kw_b.2.2.2.symm), decide_eq_true e, it_f (show ¬ b2 true = 0 by decide)]
    exact Or.inl ⟨1, Or.inr rfl, t, rfl⟩
  · rw [decide_eq_false e1, it_t (show b2 false = 0 from rfl), ca_s (e_isWord K (k := 12) (by decide) kw_b.2.2.2.symm), decide_eq_false e2, it_t (show b2 false = 0 from rfl)]
    exact Or.inr ⟨t, rfl⟩
theorem y01_pos {y : Int32} (h : y = 0 ∨ y = 1) : 0 ≤ y ∧ ¬ y = -1 := by
  rcases h with rfl | rfl <;> decide
/-- a loop that fails where p holds, and goes to K else -/
theorem lz1_any {B : (Int32 → RM Int32) → Int32 → RM Int32} {Z : X_} (q : Nat → Bool) {m : Nat} {E F : Option (Int32 × X_)} (hm : m < 5000) (h1 : ∀ i L, i < m → B L (nI i) Z = if q i = true then E else L (nI (i + 1)) Z) (h2 : ∀ L, B L (nI m) Z = F) : lz1 B FU 0 Z = if an q m = true then E else F := by
  have h : ∀ k i f, i + k = m → k < f → (∀ j, j < i → q j = false) → lz1 B f (nI i) Z = if an q m = true then E else F := by
    intro k
    induction k with
    | zero =>
      intro i f hi hf hq
      obtain ⟨f, rfl⟩ : ∃ g, f = g + 1 := ⟨f - 1, by omega⟩
      rw [lz1_s, show i = m by omega, h2, if_neg]
      intro z
      obtain ⟨j, j1, j2⟩ := (an_iff m).mp z
      rw [hq j (by omega)] at j2
      exact absurd j2 (by decide)
    | succ k ih =>
      intro i f hi hf hq
      obtain ⟨f, rfl⟩ : ∃ g, f = g + 1 := ⟨f - 1, by omega⟩
      rw [lz1_s, h1 i _ (by omega)]
      by_cases c : q i = true
      · rw [if_pos c, if_pos ((an_iff m).mpr ⟨i, by omega, c⟩)]
      · rw [if_neg c]
        refine ih (i + 1) f (by omega) (by omega) (fun j hj => ?_)
        by_cases e : j = i
        · subst e; exact Bool.eq_false_iff.mpr c
        · exact hq j (by omega)
  exact h m 0 FU (by omega) (by rw [FU_eq]; exact hm) (fun j hj => absurd hj (Nat.not_lt_zero j))
theorem ff_an {q : Nat → Bool} {m : Nat} (hm : m < 2 ^ 31) : ff q 0 m = -1 ↔ an q m = false := by
  rw [ff_m1 m 0 (by omega), ← Bool.not_eq_true, an_iff]
  constructor
  · rintro h ⟨i, hi, e⟩
    rw [h i (by omega) (by omega)] at e
    exact absurd e (by decide)
  · intro h j _ hj
    cases e : q j
    · rfl
    · exact absurd ⟨j, by omega, e⟩ h
theorem r_readSignal (h : LR X0 Y0 n p X Y) : LE X0 Y0 n p X Y fX6_readSignal fX12_readSignal := by
  have h0 := h.ms
  obtain ⟨-, hK, -, -, hD, ⟨hH, h01⟩, hl⟩ := h
  generalize bP X 26 = D at *
  generalize bPJ X 26 = N at *
  generalize hSd : Y.1 221 = S at *
  generalize (fun j => Y.2.1 223 (41 + j)) = M at *
  have C := hD.1
  have ok := C.1
  have bd := ok.bd
  have hs := C.2.1
  obtain ⟨c, hc⟩ : ∃ c, ct D 3 = c := ⟨_, rfl⟩
  have ec : D 1 3 = nI c := by rw [← hc]; exact ok.c3.1
  have sc : Y.1 221 3 = nI c := by rw [h0.s, hs 3 (by decide), ec]
  have c12 : c ≤ 8 := by rw [← hc]; exact ok.c3.2
  have rmk := k_room (X := X) (a := 3) (m := 8) (s := 3) (most := 8) (c := c) rfl (by decide) rfl (by rw [h0.d]; exact ec) (by omega) (by decide)
  by_cases rm : c < 8
  · rw [if_pos rm] at rmk
    obtain ⟨X1, Y1, p1, n1, n1', h1, K1, -, pp1, -, -⟩ := h0.next
    have q1 := k_newM h0 ok n1
    have r1 : (rA 221 226 3 fun v1 => (re v1)) Y = some (nI c, Y) := by rw [rA_l (by decide) (by decide), sc]; rfl
    have nC : ¬ nI c = 8 := fun z => absurd ((nI_eq (b := 8) (by omega) (by decide)).mp z) (by omega)
    rcases h1.fresh K1 ok hD.nm hs (t := 18 + c) (a := 59 + nI c) (by rw [ix_la, ← Nat.add_assoc]) (by omega) with ⟨X2, Y2, b1, b2, b3⟩ | ⟨w, w1, w2, w3, b1, b2, -⟩
    · refine LE.bad ?_ ?_ (h1.fail b3)
      · unfold fX6_readSignal
        rw [ca_s rmk, it_f (by decide), ca_s (q1.trans b1), it_t rfl]; rfl
      · unfold fX12_readSignal
        rw [rA_l (by decide) (by decide), sc, it_f (nC), ca_s n1', ca_s b2, it_t rfl]; rfl
    · obtain ⟨X2, Y2, p2, n2, n2', h2, K2, -, pp2, -, -⟩ := (h1.yj (18 + c) (c8 w)).next
      have q2 := k_namM (s := 0) (a := 0) h1 rfl (by decide) ok.c0.1 (by omega) n2
      have b2' := b2.trans (ca_s n2')
      have s0 : Y2.1 221 0 = nI (ct D 0) := by rw [h2.s, hs 0 (by decide)]; exact ok.c0.1
      rcases h2.look K2 (s := 0) (f := 0) (c := ct D 0) (a := 0) (af := 41) (am := nI (ct D 0)) rfl (by decide) ok.c0.1 (by omega) rfl (by omega) rfl (fun i hi => by rw [uM_ne (by omega)]; exact hD.nm.1 i hi) with ⟨X3, Y3, d1, d2, d3⟩ | ⟨k, k1, d1, d2, -⟩
      · refine LE.bad ?_ ?_ (h2.fail d3)
        · unfold fX6_readSignal
          rw [ca_s rmk, it_f (by decide), ca_s (q1.trans b1), it_f (by decide), gJ_e, ca_s (q2.trans d1), jo1_e]
          dsimp only
          rw [it_t rfl, it_t rfl]; rfl
        · unfold fX12_readSignal
          rw [rA_l (by decide) (by decide), sc, it_f nC, ca_s n1', ca_s b2', it_f (by decide), rA_l (by decide) (by decide), s0, ca_s (e_takesName0 d2), it_t rfl]; rfl
      · obtain ⟨X3, Y3, p3, n3, n3', h3, K3, t3, pp3, -, -⟩ := (h2.got (nI k)).next
        have q3 : fX10_nextOfTwo 11 X2 = k_tw 11 X3 := (k_nextTwo h2.b.ok).trans (ca_s n3)
        have tn := e_takesName (v := 0) d2 n3'
        have g18 : Y3.1 218 18 = nI k := t3.trans sI_eq
        rcases r_way K3 with ⟨y, y01, y1, y2⟩ | ⟨y1, y2⟩
        · have yp := y01_pos y01
          -- has a signal the place already
          have sg : fX5_signalAt 26 (nI k) y X3 = some (p_signalAt D (nI k) y, X3) := by rw [← h3.d]; exact gd_t (by rw [h3.d]; exact ok)
          obtain ⟨X4, m1, h4⟩ := h3.add (a := 3) (x := X1.2.1 1 7) rfl (by decide) ec (by omega)
          obtain ⟨X5, Y5, p5, n5, n5', h5, K5, t5, pp5, sg5, -⟩ := ((((h4.xi (j := 9) (by decide) c (nI k)).xi (j := 10) (by decide) c y).yi (90 + c) (nI k)).yi (98 + c) y).next
          have hf := h5.yi 3 (nI (c + 1))
          rw [w2] at hf
          have loop : (lz1 (fun L74 x7 => (it (nI c ≤ x7) (wA 221 226 (90 + nI c) (nI k) (wA 221 226 (98 + nI c) y (ca fX12_next fun _ => (rA 221 226 3 fun v8 => (wA 221 226 3 (v8 + 1) (re 1)))))) (rA 221 226 (90 + x7) fun v9 => (it (v9 = nI k) (rA 221 226 (98 + x7) fun v10 => (it (v10 = y) (ca (fX12_bad 3) fun v11 => (rz v11)) (L74 (x7 + 1)))) (L74 (x7 + 1)))))) FU 0) Y3 = if an (fun g => decide (D 9 g = nI k ∧ D 10 g = y)) c = true then some (0, wY Y3 3) else some (1, sI Y5 221 3 (nI (c + 1))) := by
            refine lz1_any _ (by omega) (fun i L hi => ?_) (fun L => ?_)
            · obtain ⟨-, ⟨z9, z10⟩, -, -⟩ := hD.2.2.2.2.1 i (by omega)
              rw [it_f (nI_ge hi (by omega)), ix_la, rA_n (by omega) (by decide), h3.s, z9, nI_1, it_e]
              by_cases e : D 9 i = nI k
              · rw [if_pos e, ix_la, rA_n (by omega) (by decide), h3.s, z10, it_e]
                by_cases e2 : D 10 i = y
                · rw [if_pos e2, if_pos (decide_eq_true ⟨e, e2⟩), ca_s (e_bad 3), rz_0]
                · rw [if_neg e2, if_neg (fun z => e2 (of_decide_eq_true z).2)]
              · rw [if_neg e, if_neg (fun z => e (of_decide_eq_true z).1)]
            · rw [it_t (nI_le (Nat.le_refl _) (by omega)), ix_la, wA_n (by omega) (by decide), ix_la, wA_n (by omega) (by decide), ca_s n5', rA_l (by decide) (by decide), show Y5.1 221 3 = nI c by rw [h5.s, upS_ne (by omega), upS_ne (by omega), hs 3 (by decide), ec], wA_l (by decide) (by decide), nI_1]
              rfl
          have hff : p_signalAt D (nI k) y = -1 ↔ an (fun g => decide (D 9 g = nI k ∧ D 10 g = y)) c = false := by
            unfold p_signalAt
            rw [hc]
            exact ff_an (by omega)
          have comp : ∀ F : Int32 → RM Int32, (ca (fX10_nextOfTwo 11) F) X2 = F y X3 := fun F => ca_s (q3.trans y1)
          cases z : an (fun g => decide (D 9 g = nI k ∧ D 10 g = y)) c
          · rw [z, if_neg (by decide)] at loop
            have nn : ∀ j, j < ct D 3 → ¬ (D 9 j = nI k ∧ D 10 j = y) := fun j hj e => by
              have := (an_iff (P := (fun g => decide (D 9 g = nI k ∧ D 10 g = y))) c).mpr ⟨j, by omega, decide_eq_true e⟩
              rw [z] at this
              exact absurd this (by decide)
            refine LE.ok (p' := p5) ?_ ?_ (hf.done (K5.y rfl rfl rfl rfl) ((DR_signal w1 k1 y01 nn hD hc rm).p (by omega)) hH h01 hl) hf.2.2.2.2.2.2.1 (by omega) (fun z => ?_)
            · unfold fX6_readSignal fX6_goOn
              rw [ca_s rmk, it_f (by decide), ca_s (q1.trans b1), it_f (by decide), gJ_e, ca_s (q2.trans d1), jo1_e]
              dsimp only
              rw [it_f (nI_m1 (by omega)), comp, it_f yp.2, ca_s sg, it_t (hff.mpr z), ca_s m1, wA_n rm (by decide), wA_n rm (by decide), ca_s (f := (ca fX10_next fun _ => re (1 : Int32))) (w := 1) (X' := X5) (by rw [ca_s n5]; rfl), rz_1]
            · unfold fX12_readSignal
              rw [rA_l (by decide) (by decide), sc, it_f nC, ca_s n1', ca_s b2', it_f (by decide), rA_l (by decide) (by decide), s0, ca_s tn, it_f (by decide), gI_e, g18, ca_s y2, it_t yp.1]
              exact loop
            · obtain ⟨a, a1, a2, a3, a4⟩ := sg5 z
              exact ⟨a, a1, by omega, a3, a4⟩
          · rw [z, if_pos rfl] at loop
            refine LE.bad (X1 := wX X3 3) (Y1 := wY Y3 3) ?_ ?_ (h3.fail (FL.w K3.1))
            · unfold fX6_readSignal
              rw [ca_s rmk, it_f (by decide), ca_s (q1.trans b1), it_f (by decide), gJ_e, ca_s (q2.trans d1), jo1_e]
              dsimp only
              rw [it_f (nI_m1 (by omega)), comp, it_f yp.2, ca_s sg, it_f (fun e => by rw [hff, z] at e; exact absurd e (by decide)), ca_s (e_wrong 3), rz_0]
            · unfold fX12_readSignal
              rw [rA_l (by decide) (by decide), sc, it_f nC, ca_s n1', ca_s b2', it_f (by decide), rA_l (by decide) (by decide), s0, ca_s tn, it_f (by decide), gI_e, g18, ca_s y2, it_t yp.1]
              exact loop
        · refine LE.bad (X1 := wX X3 1) (Y1 := wY Y3 1) ?_ ?_ (h3.fail (FL.w K3.1))
          · unfold fX6_readSignal
            rw [ca_s rmk, it_f (by decide), ca_s (q1.trans b1), it_f (by decide), gJ_e, ca_s (q2.trans d1), jo1_e]
            dsimp only
            rw [it_f (nI_m1 (by omega)), ca_s (q3.trans y1), it_t rfl]; rfl
          · unfold fX12_readSignal
            rw [rA_l (by decide) (by decide), sc, it_f nC, ca_s n1', ca_s b2', it_f (by decide), rA_l (by decide) (by decide), s0, ca_s tn, it_f (by decide), gI_e, g18, ca_s y2, it_f (by decide), ca_s (e_bad 1), rz_0]
  · rw [if_neg rm] at rmk
    refine LE.bad (X1 := wX X 4) (Y1 := wY Y 4) ?_ ?_ (h0.fail (FL.w hK.1))
    · unfold fX6_readSignal
      rw [ca_s rmk, it_t rfl]; rfl
    · unfold fX12_readSignal
      rw [rA_l (by decide) (by decide), sc, it_t (show nI c = 8 by rw [show c = 8 by omega]; rfl), ca_s (e_bad 4), rz_0]
theorem r_readTrain (h : LR X0 Y0 n p X Y) : LE X0 Y0 n p X Y fX6_readTrain fX12_readTrain := by
  have h0 := h.ms
  obtain ⟨-, hK, -, -, hD, ⟨hH, h01⟩, hl⟩ := h
  generalize bP X 26 = D at *
  generalize bPJ X 26 = N at *
  generalize hSd : Y.1 221 = S at *
  generalize (fun j => Y.2.1 223 (41 + j)) = M at *
  have C := hD.1
  have ok := C.1
  have bd := ok.bd
  have hs := C.2.1
  obtain ⟨c, hc⟩ : ∃ c, ct D 6 = c := ⟨_, rfl⟩
  have ec : D 1 6 = nI c := by rw [← hc]; exact ok.c6.1
  have sc : Y.1 221 6 = nI c := by rw [h0.s, hs 6 (by decide), ec]
  have c12 : c ≤ 5 := by rw [← hc]; exact ok.c6.2
  have rmk := k_room (X := X) (a := 6) (m := 5) (s := 6) (most := 5) (c := c) rfl (by decide) rfl (by rw [h0.d]; exact ec) (by omega) (by decide)
  by_cases rm : c < 5
  · rw [if_pos rm] at rmk
    obtain ⟨X1, Y1, p1, n1, n1', h1, K1, -, pp1, -, -⟩ := h0.next
    have q1 := k_newM h0 ok n1
    have r1 : (rA 221 226 6 fun v1 => (re v1)) Y = some (nI c, Y) := by rw [rA_l (by decide) (by decide), sc]; rfl
    have nC : ¬ nI c = 5 := fun z => absurd ((nI_eq (b := 5) (by omega) (by decide)).mp z) (by omega)
    rcases h1.fresh K1 ok hD.nm hs (t := 36 + c) (a := 77 + nI c) (by rw [ix_la, ← Nat.add_assoc]) (by omega) with ⟨X2, Y2, b1, b2, b3⟩ | ⟨w, w1, w2, w3, b1, b2, -⟩
    · refine LE.bad ?_ ?_ (h1.fail b3)
      · unfold fX6_readTrain
        rw [ca_s rmk, it_f (by decide), ca_s (q1.trans b1), it_t rfl]; rfl
      · unfold fX12_readTrain
        rw [rA_l (by decide) (by decide), sc, it_f (nC), ca_s n1', ca_s b2, it_t rfl]; rfl
    · obtain ⟨X2, Y2, p2, n2, n2', h2, K2, -, pp2, -, -⟩ := (h1.yj (36 + c) (c8 w)).next
      have q2 := k_namM (s := 0) (a := 0) h1 rfl (by decide) ok.c0.1 (by omega) n2
      have b2' := b2.trans (ca_s n2')
      have s0 : Y2.1 221 0 = nI (ct D 0) := by rw [h2.s, hs 0 (by decide)]; exact ok.c0.1
      rcases h2.look K2 (s := 0) (f := 0) (c := ct D 0) (a := 0) (af := 41) (am := nI (ct D 0)) rfl (by decide) ok.c0.1 (by omega) rfl (by omega) rfl (fun i hi => by rw [uM_ne (by omega)]; exact hD.nm.1 i hi) with ⟨X3, Y3, d1, d2, d3⟩ | ⟨k, k1, d1, d2, -⟩
      · refine LE.bad ?_ ?_ (h2.fail d3)
        · unfold fX6_readTrain
          rw [ca_s rmk, it_f (by decide), ca_s (q1.trans b1), it_f (by decide), gJ_e, ca_s (q2.trans d1), it_t rfl]; rfl
        · unfold fX12_readTrain
          rw [rA_l (by decide) (by decide), sc, it_f nC, ca_s n1', ca_s b2', it_f (by decide), rA_l (by decide) (by decide), s0, ca_s d2, it_t rfl]; rfl
      · have h2g := h2.got (nI k)
        obtain ⟨X3, Y3, p3, n3, n3', h3, K3, -, pp3, -, -⟩ := (h2g.yi (216 + c) (nI k)).next
        have q3 : fX10_nextOfTwo 11 X2 = k_tw 11 X3 := (k_nextTwo h2.b.ok).trans (ca_s n3)
        -- the component's loop, the reference's
        have cl : ∀ (K : RM Int32), (lz1 (fun L51 x5 => (rA (26 + 1) 8 6 fun v6 => (it (v6 ≤ x5) K (rA (26 + 19) 5 x5 fun v10 => (it (v10 = nI k) (ca (fX10_wrong 3) fun v11 => (rz v11)) (L51 (x5 + 1))))))) FU 0) X2 = if an (fun t => decide (D 19 t = nI k)) c = true then some (0, wX X2 3) else K X2 := fun K => by
          refine lz1_any _ (by omega) (fun i L hi => ?_) (fun L => ?_)
          · rw [k_Pl (by decide) (by decide) (by decide), h2.d, ec, it_f (nI_ge hi (by omega)), k_P (show i < 5 by omega) (by decide) (by decide), h2.d, nI_1, it_e]
            by_cases e : D 19 i = nI k
            · rw [if_pos e, if_pos (decide_eq_true e), ca_s (e_wrong 3), rz_0]
            · rw [if_neg e, if_neg (fun z => e (of_decide_eq_true z))]
          · rw [k_Pl (by decide) (by decide) (by decide), h2.d, ec, it_t (nI_le (Nat.le_refl _) (by omega))]
        have rl : ∀ (K : RM Int32), (lz1 (fun L53 x5 => (it (nI c ≤ x5) K (rA 221 226 (216 + x5) fun v10 => (gI 218 18 fun v11 => (it (v10 = v11) (ca (fX12_bad 3) fun v12 => (rz v12)) (L53 (x5 + 1))))))) FU 0) (sI Y2 218 18 (nI k)) = if an (fun t => decide (D 19 t = nI k)) c = true then some (0, wY (sI Y2 218 18 (nI k)) 3) else K (sI Y2 218 18 (nI k)) := fun K => by
          refine lz1_any _ (by omega) (fun i L hi => ?_) (fun L => ?_)
          · obtain ⟨-, ⟨z19, -⟩, -⟩ := hD.2.2.2.2.2.2 i (by omega)
            rw [it_f (nI_ge hi (by omega)), ix_la, rA_n (by omega) (by decide), h2g.s, z19, gI_e, sI_eq, nI_1, it_e]
            by_cases e : D 19 i = nI k
            · rw [if_pos e, if_pos (decide_eq_true e), ca_s (e_bad 3), rz_0]
            · rw [if_neg e, if_neg (fun z => e (of_decide_eq_true z))]
          · rw [it_t (nI_le (Nat.le_refl _) (by omega))]
        have cm : fX6_readTrain X = (lz1 (fun L51 x5 => (rA (26 + 1) 8 6 fun v6 => (it (v6 ≤ x5) (ca (fX10_nextOfTwo 11) fun v7 => (it (v7 = (-1)) (re 0) (ca (fX5_addOne 26 6 (X1.2.1 1 7)) fun v8 => (wA (26 + 19) 5 v8 (nI k) (wA (26 + 20) 5 v8 v7 (ca fX6_goOn fun v9 => (rz v9))))))) (rA (26 + 19) 5 x5 fun v10 => (it (v10 = nI k) (ca (fX10_wrong 3) fun v11 => (rz v11)) (L51 (x5 + 1))))))) FU 0) X2 := by
          unfold fX6_readTrain
          rw [ca_s rmk, it_f (by decide), ca_s (q1.trans b1), it_f (by decide), gJ_e, ca_s (q2.trans d1), it_f (nI_m1 (by omega))]
        have rf : fX12_readTrain Y = (lz1 (fun L53 x5 => (it (nI c ≤ x5) (gI 218 18 fun v6 => (wA 221 226 (216 + nI c) v6 (ca fX12_next fun _ => (ca fX12_wayWord fun v7 => (it (0 ≤ v7) (wA 221 226 (221 + nI c) v7 (ca fX12_next fun _ => (rA 221 226 6 fun v8 => (wA 221 226 6 (v8 + 1) (re 1))))) (ca (fX12_bad 1) fun v9 => (rz v9))))))) (rA 221 226 (216 + x5) fun v10 => (gI 218 18 fun v11 => (it (v10 = v11) (ca (fX12_bad 3) fun v12 => (rz v12)) (L53 (x5 + 1))))))) FU 0) (sI Y2 218 18 (nI k)) := by
          unfold fX12_readTrain
          rw [rA_l (by decide) (by decide), sc, it_f nC, ca_s n1', ca_s b2', it_f (by decide), rA_l (by decide) (by decide), s0, ca_s d2, it_f (by decide)]
        rw [cl] at cm
        rw [rl] at rf
        cases z : an (fun t => decide (D 19 t = nI k)) c
        · rw [z, if_neg (by decide)] at cm rf
          rw [gI_e, sI_eq, ix_la, wA_n (by omega) (by decide), ca_s n3'] at rf
          rcases r_way K3 with ⟨y, y01, y1, y2⟩ | ⟨y1, y2⟩
          · have yp := y01_pos y01
            obtain ⟨X4, m1, h4⟩ := h3.add (a := 6) (x := X1.2.1 1 7) rfl (by decide) ec (by omega)
            obtain ⟨X5, Y5, p5, n5, n5', h5, K5, t5, pp5, sg5, -⟩ := (((h4.xi (j := 19) (by decide) c (nI k)).xi (j := 20) (by decide) c y).yi (221 + c) y).next
            have hf := h5.yi 6 (nI (c + 1))
            rw [w2] at hf
            refine LE.ok (p' := p5) ?_ ?_ (hf.done (K5.y rfl rfl rfl rfl) ((DR_train w1 k1 y01 hD hc rm).p (by omega)) hH h01 hl) hf.2.2.2.2.2.2.1 (by omega) (fun z => ?_)
            · rw [cm]
              unfold fX6_goOn
              rw [ca_s (q3.trans y1), it_f yp.2, ca_s m1, wA_n rm (by decide), wA_n rm (by decide), ca_s (f := (ca fX10_next fun _ => re (1 : Int32))) (w := 1) (X' := X5) (by rw [ca_s n5]; rfl), rz_1]
            · rw [rf, ca_s y2, it_t yp.1, ix_la, wA_n (by omega) (by decide), ca_s n5', rA_l (by decide) (by decide), show Y5.1 221 6 = nI c by rw [h5.s, upS_ne (by omega), upS_ne (by omega), hs 6 (by decide), ec], wA_l (by decide) (by decide), nI_1]
              rfl
            · obtain ⟨a, a1, a2, a3, a4⟩ := sg5 z
              exact ⟨a, a1, by omega, a3, a4⟩
          · refine LE.bad (X1 := wX X3 1) (Y1 := wY Y3 1) ?_ ?_ (h3.fail (FL.w K3.1))
            · rw [cm, ca_s (q3.trans y1), it_t rfl]; rfl
            · rw [rf, ca_s y2, it_f (by decide), ca_s (e_bad 1), rz_0]
        · rw [z, if_pos rfl] at cm rf
          refine LE.bad cm rf (h2g.fail (FL.w (Y := sI Y2 218 18 (nI k)) ?_))
          rw [sI_ne (by decide)]
          exact K2.1
  · rw [if_neg rm] at rmk
    refine LE.bad (X1 := wX X 4) (Y1 := wY Y 4) ?_ ?_ (h0.fail (FL.w hK.1))
    · unfold fX6_readTrain
      rw [ca_s rmk, it_t rfl]; rfl
    · unfold fX12_readTrain
      rw [rA_l (by decide) (by decide), sc, it_t (show nI c = 5 by rw [show c = 5 by omega]; rfl), ca_s (e_bad 4), rz_0]
end LM
