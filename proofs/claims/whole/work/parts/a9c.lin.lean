/-! hold, locks -/
section LO
variable {X Y X1 Y1 X0 Y0 : X_} {n p : Nat} {D : m_V} {N : m_L} {S : Nat → Int32} {M : Nat → Int64} {hx hy lx ly : Int32}
theorem DR_hold {l : Nat} (l1 : 1 ≤ l) (l2 : l ≤ 30) (h : DR p D N S M) : DR p (u2 D 1 7 (nI l)) N (upS S 7 (nI l)) M := by
  obtain ⟨C, D0, D1, D2, D3, D4, D6⟩ := h
  have bd := C.1.bd
  have ec : ∀ s, ¬ s = 7 → u2 D 1 7 (nI l) 1 s = D 1 s := fun s hs => u2_ne (by omega)
  have cc : ∀ s, ¬ s = 7 → ct (u2 D 1 7 (nI l)) s = ct D s := fun s hs => by unfold ct; rw [ec s hs]
  have row : ∀ j, ¬ j = 1 → u2 D 1 7 (nI l) j = D j := fun j hj => u2_row hj
  have sS : ∀ j, ¬ j = 7 → upS S 7 (nI l) j = S j := fun j hj => upS_ne hj
  have le : ∀ s, ¬ s = 7 → ct D s ≤ ct (u2 D 1 7 (nI l)) s := fun s hs => by rw [cc s hs]; exact Nat.le_refl _
  have one : ∀ s m, ¬ s = 7 → (D 1 s = nI (ct D s) ∧ ct D s ≤ m) → u2 D 1 7 (nI l) 1 s = nI (ct (u2 D 1 7 (nI l)) s) ∧ ct (u2 D 1 7 (nI l)) s ≤ m := fun s m hs hm => by rw [cc s hs, ec s hs]; exact hm
  obtain ⟨a, b, ⟨m, e, hm⟩, -⟩ := C
  refine ⟨⟨⟨one 0 12 (by decide) a.c0, one 1 6 (by decide) a.c1, one 2 16 (by decide) a.c2, one 3 8 (by decide) a.c3, one 4 10 (by decide) a.c4, one 6 5 (by decide) a.c6⟩, fun k hk => ?_, ⟨m, by rw [ec 5 (by decide)]; exact e, hm⟩, ⟨l, u2_eq, l1, l2⟩⟩, D0.of bd.1 (cc 0 (by decide)) (row 3 (by decide)) (fun _ _ _ => rfl) (fun j _ _ => sS j (by omega)) (fun _ _ => rfl), D1.of bd.2.1 (cc 1 (by decide)) (le 0 (by decide)) (row 4 (by decide)) (fun _ _ _ => rfl) (fun j _ _ => sS j (by omega)) (fun _ _ _ => rfl), D2.of bd.2.2.1 (cc 2 (by decide)) (le 0 (by decide)) (le 1 (by decide)) (row 5 (by decide)) (row 6 (by decide)) (row 7 (by decide)) (row 8 (by decide)) (fun j _ _ => sS j (by omega)), D3.of bd.2.2.2.1 (cc 3 (by decide)) (le 0 (by decide)) (row 9 (by decide)) (row 10 (by decide)) (fun _ _ _ => rfl) (fun j _ _ => sS j (by omega)) (fun _ _ _ => rfl), D4.of bd.2.2.2.2.1 (cc 4 (by decide)) (le 0 (by decide)) (le 1 (by decide)) (le 3 (by decide)) (fun j _ _ => row j (by omega)) (fun _ _ _ => rfl) (fun j _ _ => sS j (by omega)) (fun _ _ _ => rfl), D6.of bd.2.2.2.2.2 (cc 6 (by decide)) (le 0 (by decide)) (row 19 (by decide)) (row 20 (by decide)) (fun _ _ _ => rfl) (fun j _ _ => sS j (by omega)) (fun _ _ _ => rfl)⟩
  by_cases q : k = 7
  · subst q; rw [upS_eq, u2_eq]
  · rw [sS k q, ec k q]; exact b k hk
theorem DR_lock {a b m : Nat} (ha : a < ct D 4) (hb : b < ct D 4) (hab : ¬ a = b) (hm : D 1 5 = nI m) (h : DR p D N S M) : DR (p + 2) (u2 (u2 (u2 D 17 a (D 17 a ||| (1 <<< (nI b &&& 31)))) 17 b (D 17 b ||| (1 <<< (nI a &&& 31)))) 1 5 (nI (m + 1))) N (upS (upS (upS S (206 + a) (D 17 a ||| (1 <<< (nI b &&& 31)))) (206 + b) (D 17 b ||| (1 <<< (nI a &&& 31)))) 5 (nI (m + 1))) M := by
  obtain ⟨C, D0, D1, D2, D3, D4, D6⟩ := h
  have bd := C.1.bd
  generalize hD' : u2 (u2 (u2 D 17 a (D 17 a ||| (1 <<< (nI b &&& 31)))) 17 b (D 17 b ||| (1 <<< (nI a &&& 31)))) 1 5 (nI (m + 1)) = D'
  generalize hS' : upS (upS (upS S (206 + a) (D 17 a ||| (1 <<< (nI b &&& 31)))) (206 + b) (D 17 b ||| (1 <<< (nI a &&& 31)))) 5 (nI (m + 1)) = S'
  have ec : ∀ s, ¬ s = 5 → D' 1 s = D 1 s := fun s hs => by rw [← hD', u2_ne (by omega), u2_ne (by omega), u2_ne (by omega)]
  have cc : ∀ s, ¬ s = 5 → ct D' s = ct D s := fun s hs => by unfold ct; rw [ec s hs]
  have row : ∀ j, ¬ j = 1 → ¬ j = 17 → D' j = D j := fun j h1 h2 => by rw [← hD', u2_row h1, u2_row h2, u2_row h2]
  have sS : ∀ j, ¬ j = 206 + a → ¬ j = 206 + b → ¬ j = 5 → S' j = S j := fun j h1 h2 h3 => by rw [← hS', upS_ne h3, upS_ne h2, upS_ne h1]
  have le : ∀ s, ¬ s = 5 → ct D s ≤ ct D' s := fun s hs => by rw [cc s hs]; exact Nat.le_refl _
  have one : ∀ s m, ¬ s = 5 → (D 1 s = nI (ct D s) ∧ ct D s ≤ m) → D' 1 s = nI (ct D' s) ∧ ct D' s ≤ m := fun s m hs hm => by rw [cc s hs, ec s hs]; exact hm
  have va : D' 17 a = D 17 a ||| (1 <<< (nI b &&& 31)) := by rw [← hD', u2_row (by decide), u2_ne (by omega), u2_eq]
  have vb : D' 17 b = D 17 b ||| (1 <<< (nI a &&& 31)) := by rw [← hD', u2_row (by decide), u2_eq]
  have vo : ∀ r, ¬ r = a → ¬ r = b → D' 17 r = D 17 r := fun r h1 h2 => by rw [← hD', u2_row (by decide), u2_ne (by omega), u2_ne (by omega)]
  have sa : S' (206 + a) = D 17 a ||| (1 <<< (nI b &&& 31)) := by rw [← hS', upS_ne (by omega), upS_ne (by omega), upS_eq]
  have sb : S' (206 + b) = D 17 b ||| (1 <<< (nI a &&& 31)) := by rw [← hS', upS_ne (by omega), upS_eq]
  have nb : ∀ r i, i < 32 → bt (D' 17 r) i = (bt (D 17 r) i || (decide (r = a ∧ i = b) || decide (r = b ∧ i = a))) := fun r i hi => by
    by_cases e1 : r = a
    · subst e1
      rw [va, b_or, b_bit (by omega) hi]
      by_cases e2 : i = b
      · subst e2; simp
      · simp [e2, hab]
    · by_cases e2 : r = b
      · subst e2
        rw [vb, b_or, b_bit (by omega) hi]
        by_cases e3 : i = a
        · subst e3; simp
        · simp [e3, e1]
      · rw [vo r e1 e2]
        simp [e1, e2]
  obtain ⟨k1, k2, ⟨m', e, hm'⟩, ho⟩ := C
  have mm : nI m' = nI m := by rw [← e, hm]
  refine ⟨⟨⟨one 0 12 (by decide) k1.c0, one 1 6 (by decide) k1.c1, one 2 16 (by decide) k1.c2, one 3 8 (by decide) k1.c3, one 4 10 (by decide) k1.c4, one 6 5 (by decide) k1.c6⟩, fun k hk => ?_, ⟨m' + 1, ?_, by omega⟩, ?_⟩, D0.of bd.1 (cc 0 (by decide)) (row 3 (by decide) (by decide)) (fun _ _ _ => rfl) (fun j _ _ => sS j (by omega) (by omega) (by omega)) (fun _ _ => rfl), D1.of bd.2.1 (cc 1 (by decide)) (le 0 (by decide)) (row 4 (by decide) (by decide)) (fun _ _ _ => rfl) (fun j _ _ => sS j (by omega) (by omega) (by omega)) (fun _ _ _ => rfl), D2.of bd.2.2.1 (cc 2 (by decide)) (le 0 (by decide)) (le 1 (by decide)) (row 5 (by decide) (by decide)) (row 6 (by decide) (by decide)) (row 7 (by decide) (by decide)) (row 8 (by decide) (by decide)) (fun j _ _ => sS j (by omega) (by omega) (by omega)), D3.of bd.2.2.2.1 (cc 3 (by decide)) (le 0 (by decide)) (row 9 (by decide) (by decide)) (row 10 (by decide) (by decide)) (fun _ _ _ => rfl) (fun j _ _ => sS j (by omega) (by omega) (by omega)) (fun _ _ _ => rfl), ⟨fun r hr => ?_, fun r q hr hq => ?_, fun r hr hr2 => ?_⟩, D6.of bd.2.2.2.2.2 (cc 6 (by decide)) (le 0 (by decide)) (row 19 (by decide) (by decide)) (row 20 (by decide) (by decide)) (fun _ _ _ => rfl) (fun j _ _ => sS j (by omega) (by omega) (by omega)) (fun _ _ _ => rfl)⟩
  · by_cases q : k = 5
    · subst q; rw [← hS', upS_eq, ← hD', u2_eq]
    · rw [sS k (by omega) (by omega) q, ec k q]; exact k2 k hk
  · rw [← hD', u2_eq, ← nI_1, ← nI_1, mm]
  · rw [ec 7 (by decide)]; exact ho
  · rw [cc 4 (by decide)] at hr
    obtain ⟨⟨g, mr, l15, l16, l17, l17'⟩, b4, w4⟩ := D4.1 r hr
    refine ⟨⟨?_, ?_, ?_, ?_, fun i h1 h2 => ?_, ?_⟩, ⟨?_, ?_, fun i hi => ?_, ?_, ?_, ?_⟩, w4⟩
    · rw [row 11 (by decide) (by decide), cc 3 (by decide)]; exact g
    · rw [row 12 (by decide) (by decide), row 13 (by decide) (by decide), row 14 (by decide) (by decide), cc 0 (by decide)]
      obtain ⟨q, q1, q2, q3, q4⟩ := mr
      exact ⟨q, q1, q2, q3, by rw [q4]; exact (secs_row (fun k hk => by rw [row 13 (by decide) (by decide)])).symm⟩
    · rw [row 15 (by decide) (by decide), cc 1 (by decide)]; exact l15
    · rw [row 16 (by decide) (by decide), cc 1 (by decide)]; exact l16
    · rw [cc 4 (by decide)] at h1
      rw [nb r i h2, l17 i h1 h2]
      have e1 : ¬ i = a := by omega
      have e2 : ¬ i = b := by omega
      simp [e1, e2]
    · rw [nb r r (by omega), l17']
      by_cases e1 : r = a
      · have : ¬ r = b := by omega
        simp [e1, hab]
      · simp [e1]
    · rw [sS _ (by omega) (by omega) (by omega), row 11 (by decide) (by decide)]; exact b4.1
    · rw [sS _ (by omega) (by omega) (by omega), row 12 (by decide) (by decide)]; exact b4.2.1
    · rw [row 12 (by decide) (by decide)] at hi
      have m6 := (D4.1 r hr).1.m6
      rw [sS _ (by omega) (by omega) (by omega), row 13 (by decide) (by decide)]; exact b4.2.2.1 i hi
    · rw [sS _ (by omega) (by omega) (by omega), row 15 (by decide) (by decide)]; exact b4.2.2.2.1
    · rw [sS _ (by omega) (by omega) (by omega), row 16 (by decide) (by decide)]; exact b4.2.2.2.2.1
    · by_cases e1 : r = a
      · rw [e1, sa, va]
      · by_cases e2 : r = b
        · rw [e2, sb, vb]
        · rw [sS _ (by omega) (by omega) (by omega), vo r e1 e2]; exact b4.2.2.2.2.2
  · rw [cc 4 (by decide)] at hr hq
    rw [nb r q (by omega), nb q r (by omega), D4.2.1 r q hr hq]
    congr 1
    rw [Bool.or_comm]
    congr 1
    · rw [decide_eq_decide]; exact And.comm
    · rw [decide_eq_decide]; exact And.comm
  · rw [cc 4 (by decide)] at hr
    rw [sS _ (by omega) (by omega) (by omega), sS _ (by omega) (by omega) (by omega), sS _ (by omega) (by omega) (by omega), sS _ (by omega) (by omega) (by omega)]
    exact D4.2.2 r hr hr2
theorem MS.y20 (h : MS X0 Y0 n p D N S M hx hy lx ly X Y) (v : Int32) : MS X0 Y0 n p D N S M hx v lx ly X (sI Y 218 20 v) := by
  obtain ⟨⟨hB, hB9, hB15⟩, hF, hG, h1, ⟨h3, h4⟩, ⟨h5, h6⟩, h7, h8⟩ := h
  exact ⟨⟨hB.y (sI_ne (by omega)) (sI_ne (by omega)) (sI_ne (by omega)) (sI_row (by decide)) rfl, hB9, by rw [sI_ne (by omega)]; exact hB15⟩, hF, hG.i (by omega), h1, ⟨by rw [sI_row (by decide)]; exact h3, h4⟩, ⟨h5, sI_eq⟩, h7, by rw [sI_ne (by omega)]; exact h8⟩
theorem MS.x2 (h : MS X0 Y0 n p D N S M hx hy lx ly X Y) (v : Int32) : MS X0 Y0 n p D N S M v hy lx ly (sI X 25 2 v) Y := by
  obtain ⟨⟨hB, hB9, hB15⟩, hF, hG, ⟨h1, h2⟩, h3, ⟨h5, h6⟩, h7, h8⟩ := h
  exact ⟨⟨hB.x (sI_row (by omega)) (sI_row (by omega)) rfl, by rw [sI_ne (by omega)]; exact hB9, hB15⟩, hF.i (by omega), hG, ⟨by rw [← h1]; exact bB_same (fun a h1 _ => sI_row (by omega)), h2⟩, h3, ⟨sI_eq, h6⟩, by rw [sI_ne (by omega)]; exact h7, h8⟩
theorem r_readHold (h : LR X0 Y0 n p X Y) : LE X0 Y0 n p X Y fX6_readHold (gI 218 20 fun v10 => (it (v10 = 0) (pI 218 20 1 (ca fX12_next fun _ => (ca (fX12_puts 7 1 30) fun v11 => (rz v11)))) (ca (fX12_bad 3) fun v12 => (rz v12)))) := by
  have h0 := h.ms
  obtain ⟨-, hK, -, -, hD, ⟨hH, h01⟩, hl⟩ := h
  rcases h01 with z | z
  · obtain ⟨X1, Y1, p1, n1, n1', h1, K1, -, pp1, -, -⟩ := (h0.y20 1).next
    have q1 : fX10_nextNumber 1 30 X = k_nu 1 30 X1 := (k_nextNumber h0.b.ok).trans (ca_s n1)
    rcases r_takes (la := 1) (lb := 30) (a := 1) (b := 30) K1 rfl rfl (by decide) (by decide) with ⟨X3, Y3, d1, d2, d3⟩ | ⟨k, k1, k2, d1, d2, -⟩
    · refine LE.bad ?_ ?_ (h1.fail d3)
      · unfold fX6_readHold
        rw [gI_e, hH, z, it_t rfl, ca_s (q1.trans d1), it_t rfl]; rfl
      · rw [gI_e, z, it_t rfl, pI_e, ca_s n1']
        rw [ca_s (e_puts0 d2), rz_0]
    · obtain ⟨X5, Y5, p5, n5, n5', h5, K5, t5, pp5, sg5, -⟩ := (((h1.x2 1).xi (j := 1) (by decide) 7 (nI k)).got (nI k)).next
      have hf := h5.yi 7 (nI k)
      refine LE.ok (p' := p5) ?_ ?_ (hf.done (K5.y rfl rfl rfl rfl) ((DR_hold k1 k2 hD).p (by omega)) rfl (Or.inr rfl) hl) hf.2.2.2.2.2.2.1 (by omega) (fun z => ?_)
      · unfold fX6_readHold fX6_goOn
        rw [gI_e, hH, z, it_t rfl, ca_s (q1.trans d1), it_f (nI_m1 (by omega)), pI_e, wA_l (by decide) (by decide), ca_s (f := (ca fX10_next fun _ => re (1 : Int32))) (w := 1) (X' := X5) (by rw [ca_s n5]; rfl), rz_1]
      · rw [gI_e, z, it_t rfl, pI_e, ca_s n1']
        rw [ca_s (e_puts (d := 7) (k := 7) (v := nI k) (d2.trans (ca_s n5')) (t5.trans sI_eq) rfl (by decide)), rz_1]
      · obtain ⟨a, a1, a2, a3, a4⟩ := sg5 z
        exact ⟨a, a1, by omega, a3, a4⟩
  · refine LE.bad (X1 := wX X 3) (Y1 := wY Y 3) ?_ ?_ (h0.fail (FL.w hK.1))
    · unfold fX6_readHold
      rw [gI_e, hH, z, it_f (by decide), ca_s (e_wrong 3), rz_0]
    · rw [gI_e, z, it_f (by decide), ca_s (e_bad 3), rz_0]
theorem r_readLock (h : LR X0 Y0 n p X Y) : LE X0 Y0 n p X Y fX6_readLock fX12_readLock := by
  have h0 := h.ms
  obtain ⟨-, hK, -, -, hD, ⟨hH, h01⟩, hl⟩ := h
  generalize bP X 26 = D at *
  generalize bPJ X 26 = N at *
  generalize Y.1 221 = S at *
  generalize (fun j => Y.2.1 223 (41 + j)) = M at *
  have C := hD.1
  have ok := C.1
  have bd := ok.bd
  have hs := C.2.1
  obtain ⟨m, hm, -⟩ := C.2.2.1
  obtain ⟨X1, Y1, p1, n1, n1', h1, K1, -, pp1, -, wd1⟩ := h0.next
  have q1 := k_namM (s := 4) (a := 4) h0 rfl (by decide) ok.c4.1 (by omega) n1
  have s4 : ∀ {Z W : X_} {n p : Nat} {hx hy lx ly : Int32}, MS X0 Y0 n p D N S M hx hy lx ly Z W → W.1 221 4 = nI (ct D 4) := fun hh => by rw [hh.s, hs 4 (by decide)]; exact ok.c4.1
  rcases h1.look K1 (s := 4) (f := 26) (c := ct D 4) (a := 4) (af := 67) (am := nI (ct D 4)) rfl (by decide) ok.c4.1 (by omega) rfl (by omega) rfl (fun i hi => hD.nm.2.2.2.1 i hi) with ⟨X3, Y3, d1, d2, d3⟩ | ⟨a, ha, d1, d2, d4⟩
  · refine LE.bad ?_ ?_ (h1.fail d3)
    · unfold fX6_readLock
      rw [ca_s (q1.trans d1), jo1_e]
      dsimp only
      rw [it_t rfl, it_t rfl]; rfl
    · unfold fX12_readLock
      rw [ca_s n1', rA_l (by decide) (by decide), s4 h1, ca_s (e_takesName0 d2), it_t rfl]; rfl
  · obtain ⟨X2, Y2, p2, n2, n2', h2, K2, t2, pp2, -, wd2⟩ := (h1.got (nI a)).next
    have q2 := k_namM (s := 4) (a := 4) h1 rfl (by decide) ok.c4.1 (by omega) n2
    have tn := e_takesName (v := 0) d2 n2'
    have g18 : Y2.1 218 18 = nI a := t2.trans sI_eq
    rcases h2.look K2 (s := 4) (f := 26) (c := ct D 4) (a := 4) (af := 67) (am := nI (ct D 4)) rfl (by decide) ok.c4.1 (by omega) rfl (by omega) rfl (fun i hi => hD.nm.2.2.2.1 i hi) with ⟨X3, Y3, e1, e2, e3⟩ | ⟨b, hb, e1, e2, e4⟩
    · refine LE.bad ?_ ?_ (h2.fail e3)
      · unfold fX6_readLock
        rw [ca_s (q1.trans d1), jo1_e]
        dsimp only
        rw [it_f (nI_m1 (by omega)), ca_s (q2.trans e1), it_t rfl]; rfl
      · unfold fX12_readLock
        rw [ca_s n1', rA_l (by decide) (by decide), s4 h1, ca_s tn, it_f (by decide), gI_e, rA_l (by decide) (by decide), s4 h2, ca_s e2, it_t rfl]; rfl
    · have h2g := h2.got (nI b)
      have bad : (nI b = nI a ∨ bt (D 17 a) b = true) → LE X0 Y0 n p X Y fX6_readLock fX12_readLock := fun q => by
        refine LE.bad (X1 := wX X2 3) (Y1 := wY (sI Y2 218 18 (nI b)) 3) ?_ ?_ (h2g.fail (FL.w (by rw [sI_ne (by decide)]; exact K2.1)))
        · unfold fX6_readLock
          rw [ca_s (q1.trans d1), jo1_e]
          dsimp only
          rw [it_f (nI_m1 (by omega)), ca_s (q2.trans e1), it_f (nI_m1 (by omega)), it_e]
          by_cases z : nI a = nI b
          · rw [if_pos z, ca_s (e_wrong 3), rz_0]
          · rw [if_neg z, k_P (show a < 10 by omega) (by decide) (by decide), h2.d, b_tst (by omega), it_t (by
              rcases q with q | q
              · exact absurd q.symm z
              · rw [q]; rfl), ca_s (e_wrong 3), rz_0]
        · unfold fX12_readLock
          rw [ca_s n1', rA_l (by decide) (by decide), s4 h1, ca_s tn, it_f (by decide), gI_e, rA_l (by decide) (by decide), s4 h2, ca_s e2, it_f (by decide), gI_e, sI_eq, g18, it_e]
          by_cases z : nI b = nI a
          · rw [if_pos z, ca_s (e_bad 3), rz_0]
          · rw [if_neg z, ix_la, rA_n (by omega) (by decide), h2g.s, (hD.2.2.2.2.2.1.1 a ha).2.1.2.2.2.2.2, gI_e, sI_eq, ca_s (e_bitOf _ (by omega))]
            rcases q with q | q
            · exact absurd q z
            · rw [q, it_f (show ¬ b2 true = 0 by decide), ca_s (e_bad 3), rz_0]
      by_cases q : nI b = nI a
      · exact bad (Or.inl q)
      · have hab : ¬ a = b := fun z => q (by rw [z])
        cases bb : bt (D 17 a) b
        · obtain ⟨X5, Y5, p5, n5, n5', h5, K5, t5, pp5, sg5, -⟩ := ((((((h2g.xi (j := 17) (by decide) a (D 17 a ||| (1 <<< (nI b &&& 31)))).xi (j := 17) (by decide) b (D 17 b ||| (1 <<< (nI a &&& 31)))).xi (j := 1) (by decide) 5 (nI (m + 1))).yi (206 + a) (D 17 a ||| (1 <<< (nI b &&& 31)))).yi (206 + b) (D 17 b ||| (1 <<< (nI a &&& 31)))).yi 5 (nI (m + 1))).next
          have r17 : ∀ r, r < ct D 4 → S (206 + r) = D 17 r := fun r hr => (hD.2.2.2.2.2.1.1 r hr).2.1.2.2.2.2.2
          have pw1 := wd1 (Or.inl d4)
          have pw2 := wd2 (Or.inl e4)
          refine LE.ok (p' := p5) ?_ ?_ (h5.done K5 ((DR_lock ha hb hab hm hD).p (by omega)) hH h01 hl) h5.2.2.2.2.2.2.1 (by omega) (fun z => ?_)
          · unfold fX6_readLock fX6_goOn
            rw [ca_s (q1.trans d1), jo1_e]
            dsimp only
            have hx1 := h2.xi (j := 17) (by decide) a (D 17 a ||| (1 <<< (nI b &&& 31)))
            have hx2 := hx1.xi (j := 17) (by decide) b (D 17 b ||| (1 <<< (nI a &&& 31)))
            rw [it_f (nI_m1 (by omega)), ca_s (q2.trans e1), it_f (nI_m1 (by omega)), it_f (fun z => q z.symm), k_P (show a < 10 by omega) (by decide) (by decide), h2.d, b_tst (by omega), bb, it_f (by decide), k_P (show a < 10 by omega) (by decide) (by decide), h2.d, wA_n (show a < 10 by omega) (by decide), k_P (show b < 10 by omega) (by decide) (by decide), hx1.d, u2_ne (by omega), wA_n (show b < 10 by omega) (by decide), k_Pl (by decide) (by decide) (by decide), hx2.d, u2_row (by decide), u2_row (by decide), hm, nI_1, wA_l (by decide) (by decide), ca_s (f := (ca fX10_next fun _ => re (1 : Int32))) (w := 1) (X' := X5) (by rw [ca_s n5]; rfl), rz_1]
          · unfold fX12_readLock
            have hy1 := h2g.yi (206 + a) (D 17 a ||| (1 <<< (nI b &&& 31)))
            have hy2 := hy1.yi (206 + b) (D 17 b ||| (1 <<< (nI a &&& 31)))
            rw [ca_s n1', rA_l (by decide) (by decide), s4 h1, ca_s tn, it_f (by decide), gI_e, rA_l (by decide) (by decide), s4 h2, ca_s e2, it_f (by decide), gI_e, sI_eq, g18, it_f q, ix_la, rA_n (by omega) (by decide), h2g.s, r17 a ha, gI_e, sI_eq, ca_s (e_bitOf _ (by omega)), bb, it_t (show b2 false = 0 from rfl), rA_n (by omega) (by decide), h2g.s, r17 a ha, gI_e, sI_eq, wA_n (by omega) (by decide), gI_e, sI_ne (by omega), sI_eq, ix_la, rA_n (by omega) (by decide), hy1.s, upS_ne (by omega), r17 b hb, wA_n (by omega) (by decide), rA_l (by decide) (by decide), hy2.s, upS_ne (by omega), upS_ne (by omega), hs 5 (by decide), hm, nI_1, wA_l (by decide) (by decide), ca_s n5']
            rfl
          · obtain ⟨a, a1, a2, a3, a4⟩ := sg5 z
            exact ⟨a, a1, by omega, a3, a4⟩
        · exact bad (Or.inr bb)
end LO
