/-! the lines that tell a new name -/
section LN
variable {X Y X1 Y1 X0 Y0 : X_} {n p : Nat}
theorem ne_lit {c m : Nat} {k : Int32} (hk : k = nI m) (h : c < m) (hm : m < 2 ^ 31) : ¬ nI c = k := by
  subst hk
  exact fun z => absurd ((nI_eq (by omega) hm).mp z) (by omega)
theorem e_puts0 {a b d : Int32} (h : fX12_takes a b Y = some (0, Y1)) : fX12_puts d a b Y = some (0, Y1) := by
  unfold fX12_puts
  rw [ca_s h, it_t rfl]; rfl
theorem e_puts {a b d v : Int32} {k : Nat} (h : fX12_takes a b Y = some (1, Y1)) (h18 : Y1.1 218 18 = v) (hd : d = nI k) (hk : k < 226) : fX12_puts d a b Y = some (1, sI Y1 221 k v) := by
  unfold fX12_puts
  rw [ca_s h, it_f (by decide), gI_e, h18, hd, wA_n hk (by decide)]; rfl
theorem r_readSection (h : LR X0 Y0 n p X Y) : LE X0 Y0 n p X Y fX6_readSection fX12_readSection := by
  have h0 := h.ms
  obtain ⟨-, hK, -, -, hD, ⟨hH, h01⟩, hl⟩ := h
  generalize bP X 26 = D at *
  generalize bPJ X 26 = N at *
  generalize hSd : Y.1 221 = S at *
  generalize (fun j => Y.2.1 223 (41 + j)) = M at *
  have C := hD.1
  have ok := C.1
  have bd := ok.bd
  have hs := C.2.1
  obtain ⟨c, hc⟩ : ∃ c, ct D 0 = c := ⟨_, rfl⟩
  have ec : D 1 0 = nI c := by rw [← hc]; exact ok.c0.1
  have sc : Y.1 221 0 = nI c := by rw [h0.s, hs 0 (by decide), ec]
  have c12 : c ≤ 12 := by rw [← hc]; exact ok.c0.2
  have rmk := k_room (X := X) (a := 0) (m := 12) (s := 0) (most := 12) (c := c) rfl (by decide) rfl (by rw [h0.d]; exact ec) (by omega) (by decide)
  by_cases rm : c < 12
  · rw [if_pos rm] at rmk
    obtain ⟨X1, Y1, p1, n1, n1', h1, K1, -, pp1, -, -⟩ := h0.next
    have q1 := k_newM h0 ok n1
    have r1 : (rA 221 226 0 fun v1 => (re v1)) Y = some (nI c, Y) := by rw [rA_l (by decide) (by decide), sc]; rfl
    have nC : ¬ nI c = 12 := ne_lit (m := 12) rfl rm (by decide)
    rcases h1.fresh K1 ok hD.nm hs (t := 0 + c) (a := 41 + nI c) (by rw [ix_la, ← Nat.add_assoc]) (by omega) with ⟨X2, Y2, b1, b2, b3⟩ | ⟨w, w1, w2, w3, b1, b2, -⟩
    · refine LE.bad ?_ ?_ (h1.fail b3)
      · unfold fX6_readSection
        rw [ca_s rmk, it_f (by decide), ca_s (q1.trans b1), it_t rfl]; rfl
      · unfold fX12_readSection
        rw [rA_l (by decide) (by decide), sc, it_f (nC), ca_s n1', ca_s b2, it_t rfl]; rfl
    · obtain ⟨X2, Y2, p2, n2, n2', h2, K2, -, pp2, -, -⟩ := (h1.yj (0 + c) (c8 w)).next
      have q2 : fX10_nextNumber 1 30 X1 = k_nu 1 30 X2 := (k_nextNumber h1.b.ok).trans (ca_s n2)
      have b2' := b2.trans (ca_s n2')
      rcases r_takes (la := 1) (lb := 30) (a := 1) (b := 30) K2 rfl rfl (by decide) (by decide) with ⟨X3, Y3, d1, d2, d3⟩ | ⟨k, k1, k2, d1, d2, -⟩
      · refine LE.bad ?_ ?_ (h2.fail d3)
        · unfold fX6_readSection
          rw [ca_s rmk, it_f (by decide), ca_s (q1.trans b1), it_f (by decide), gJ_e, ca_s (q2.trans d1), it_t rfl]; rfl
        · unfold fX12_readSection
          rw [rA_l (by decide) (by decide), sc, it_f nC, ca_s n1', ca_s b2', it_f (by decide)]
          rw [ca_s (e_puts0 d2), it_t rfl]; rfl
      · obtain ⟨X3, m1, h3⟩ := h2.add (a := 0) (x := X1.2.1 1 7) rfl (by decide) ec (by omega)
        obtain ⟨X5, Y5, p5, n5, n5', h5, K5, t5, pp5, sg5, -⟩ := ((h3.xi (j := 3) (by decide) c (nI k)).got (nI k)).next
        have hf := (h5.yi (8 + c) (nI k)).yi 0 (nI (c + 1))
        rw [w2] at hf
        refine LE.ok (p' := p5) ?_ ?_ (hf.done (K5.y rfl rfl rfl rfl) ((DR_section w1 k1 k2 hD hc rm).p (by omega)) hH h01 hl) hf.2.2.2.2.2.2.1 (by omega) (fun z => ?_)
        · unfold fX6_readSection fX6_goOn
          rw [ca_s rmk, it_f (by decide), ca_s (q1.trans b1), it_f (by decide), gJ_e, ca_s (q2.trans d1), it_f (nI_m1 (by omega)), ca_s m1, wA_n rm (by decide), ca_s (show (ca fX10_next fun _ => re (1 : Int32)) (sI X3 (26 + 3) c (nI k)) = some (1, X5) by rw [ca_s n5]; rfl), rz_1]
        · unfold fX12_readSection
          rw [rA_l (by decide) (by decide), sc, it_f nC, ca_s n1', ca_s b2', it_f (by decide)]
          rw [ca_s (e_puts (k := 8 + c) (v := nI k) (d2.trans (ca_s n5')) (t5.trans sI_eq) (ix_la _ _) (by omega)), it_f (by decide), rA_l (by decide) (by decide), show (sI Y5 221 (8 + c) (nI k)).1 221 0 = nI c by rw [(h5.yi (8 + c) (nI k)).s, upS_ne (by omega), hs 0 (by decide), ec], wA_l (by decide) (by decide), nI_1]
          rfl
        · obtain ⟨a, a1, a2, a3, a4⟩ := sg5 z
          exact ⟨a, a1, by omega, a3, a4⟩
  · rw [if_neg rm] at rmk
    refine LE.bad (X1 := wX X 4) (Y1 := wY Y 4) ?_ ?_ (h0.fail (FL.w hK.1))
    · unfold fX6_readSection
      rw [ca_s rmk, it_t rfl]; rfl
    · unfold fX12_readSection
      rw [rA_l (by decide) (by decide), sc, it_t (show nI c = 12 by rw [show c = 12 by omega]; rfl), ca_s (e_bad 4), rz_0]
theorem r_readPoints (h : LR X0 Y0 n p X Y) : LE X0 Y0 n p X Y fX6_readPoints fX12_readPoints := by
  have h0 := h.ms
  obtain ⟨-, hK, -, -, hD, ⟨hH, h01⟩, hl⟩ := h
  generalize bP X 26 = D at *
  generalize bPJ X 26 = N at *
  generalize hSd : Y.1 221 = S at *
  generalize (fun j => Y.2.1 223 (41 + j)) = M at *
  have C := hD.1
  have ok := C.1
  have bd := ok.bd
  have hs := C.2.1
  obtain ⟨c, hc⟩ : ∃ c, ct D 1 = c := ⟨_, rfl⟩
  have ec : D 1 1 = nI c := by rw [← hc]; exact ok.c1.1
  have sc : Y.1 221 1 = nI c := by rw [h0.s, hs 1 (by decide), ec]
  have c12 : c ≤ 6 := by rw [← hc]; exact ok.c1.2
  have rmk := k_room (X := X) (a := 1) (m := 6) (s := 1) (most := 6) (c := c) rfl (by decide) rfl (by rw [h0.d]; exact ec) (by omega) (by decide)
  by_cases rm : c < 6
  · rw [if_pos rm] at rmk
    obtain ⟨X1, Y1, p1, n1, n1', h1, K1, -, pp1, -, -⟩ := h0.next
    have q1 := k_newM h0 ok n1
    have r1 : (rA 221 226 1 fun v1 => (re v1)) Y = some (nI c, Y) := by rw [rA_l (by decide) (by decide), sc]; rfl
    have nC : ¬ nI c = 6 := ne_lit (m := 6) rfl rm (by decide)
    rcases h1.fresh K1 ok hD.nm hs (t := 12 + c) (a := 53 + nI c) (by rw [ix_la, ← Nat.add_assoc]) (by omega) with ⟨X2, Y2, b1, b2, b3⟩ | ⟨w, w1, w2, w3, b1, b2, -⟩
    · refine LE.bad ?_ ?_ (h1.fail b3)
      · unfold fX6_readPoints
        rw [ca_s rmk, it_f (by decide), ca_s (q1.trans b1), it_t rfl]; rfl
      · unfold fX12_readPoints
        rw [rA_l (by decide) (by decide), sc, it_f (nC), ca_s n1', ca_s b2, it_t rfl]; rfl
    · obtain ⟨X2, Y2, p2, n2, n2', h2, K2, -, pp2, -, -⟩ := (h1.yj (12 + c) (c8 w)).next
      have q2 := k_namM (s := 0) (a := 0) h1 rfl (by decide) ok.c0.1 (by omega) n2
      have b2' := b2.trans (ca_s n2')
      have s0 : Y2.1 221 0 = nI (ct D 0) := by rw [h2.s, hs 0 (by decide)]; exact ok.c0.1
      rcases h2.look K2 (s := 0) (f := 0) (c := ct D 0) (a := 0) (af := 41) (am := nI (ct D 0)) rfl (by decide) ok.c0.1 (by omega) rfl (by omega) rfl (fun i hi => by rw [uM_ne (by omega)]; exact hD.nm.1 i hi) with ⟨X3, Y3, d1, d2, d3⟩ | ⟨k, k1, d1, d2, -⟩
      · refine LE.bad ?_ ?_ (h2.fail d3)
        · unfold fX6_readPoints
          rw [ca_s rmk, it_f (by decide), ca_s (q1.trans b1), it_f (by decide), gJ_e, ca_s (q2.trans d1), it_t rfl]; rfl
        · unfold fX12_readPoints
          rw [rA_l (by decide) (by decide), sc, it_f nC, ca_s n1', ca_s b2', it_f (by decide), rA_l (by decide) (by decide), s0, ca_s (e_takesName0 d2), it_t rfl]; rfl
      · obtain ⟨X3, m1, h3⟩ := h2.add (a := 1) (x := X1.2.1 1 7) rfl (by decide) ec (by omega)
        obtain ⟨X5, Y5, p5, n5, n5', h5, K5, t5, pp5, sg5, -⟩ := ((h3.xi (j := 4) (by decide) c (nI k)).got (nI k)).next
        have hf := (h5.yi (20 + c) (nI k)).yi 1 (nI (c + 1))
        rw [w2] at hf
        refine LE.ok (p' := p5) ?_ ?_ (hf.done (K5.y rfl rfl rfl rfl) ((DR_points w1 k1 hD hc rm).p (by omega)) hH h01 hl) hf.2.2.2.2.2.2.1 (by omega) (fun z => ?_)
        · unfold fX6_readPoints fX6_goOn
          rw [ca_s rmk, it_f (by decide), ca_s (q1.trans b1), it_f (by decide), gJ_e, ca_s (q2.trans d1), it_f (nI_m1 (by omega)), ca_s m1, wA_n rm (by decide), ca_s (show (ca fX10_next fun _ => re (1 : Int32)) (sI X3 (26 + 4) c (nI k)) = some (1, X5) by rw [ca_s n5]; rfl), rz_1]
        · unfold fX12_readPoints
          rw [rA_l (by decide) (by decide), sc, it_f nC, ca_s n1', ca_s b2', it_f (by decide), rA_l (by decide) (by decide), s0, ca_s (e_takesName (v := 0) d2 n5'), it_f (by decide), gI_e, t5, sI_eq, ix_la, wA_n (by omega) (by decide), rA_l (by decide) (by decide), show (sI Y5 221 (20 + c) (nI k)).1 221 1 = nI c by rw [(h5.yi (20 + c) (nI k)).s, upS_ne (by omega), hs 1 (by decide), ec], wA_l (by decide) (by decide), nI_1]
          rfl
        · obtain ⟨a, a1, a2, a3, a4⟩ := sg5 z
          exact ⟨a, a1, by omega, a3, a4⟩
  · rw [if_neg rm] at rmk
    refine LE.bad (X1 := wX X 4) (Y1 := wY Y 4) ?_ ?_ (h0.fail (FL.w hK.1))
    · unfold fX6_readPoints
      rw [ca_s rmk, it_t rfl]; rfl
    · unfold fX12_readPoints
      rw [rA_l (by decide) (by decide), sc, it_t (show nI c = 6 by rw [show c = 6 by omega]; rfl), ca_s (e_bad 4), rz_0]
theorem r_readRoute (h : LR X0 Y0 n p X Y) : LE X0 Y0 n p X Y fX6_readRoute fX12_readRoute := by
  have h0 := h.ms
  obtain ⟨-, hK, -, -, hD, ⟨hH, h01⟩, hl⟩ := h
  generalize bP X 26 = D at *
  generalize bPJ X 26 = N at *
  generalize hSd : Y.1 221 = S at *
  generalize (fun j => Y.2.1 223 (41 + j)) = M at *
  have C := hD.1
  have ok := C.1
  have bd := ok.bd
  have hs := C.2.1
  obtain ⟨c, hc⟩ : ∃ c, ct D 4 = c := ⟨_, rfl⟩
  have ec : D 1 4 = nI c := by rw [← hc]; exact ok.c4.1
  have sc : Y.1 221 4 = nI c := by rw [h0.s, hs 4 (by decide), ec]
  have c12 : c ≤ 10 := by rw [← hc]; exact ok.c4.2
  have rmk := k_room (X := X) (a := 4) (m := 10) (s := 4) (most := 10) (c := c) rfl (by decide) rfl (by rw [h0.d]; exact ec) (by omega) (by decide)
  by_cases rm : c < 10
  · rw [if_pos rm] at rmk
    obtain ⟨X1, Y1, p1, n1, n1', h1, K1, -, pp1, -, -⟩ := h0.next
    have q1 := k_newM h0 ok n1
    have r1 : (rA 221 226 4 fun v1 => (re v1)) Y = some (nI c, Y) := by rw [rA_l (by decide) (by decide), sc]; rfl
    have nC : ¬ nI c = 10 := ne_lit (m := 10) rfl rm (by decide)
    rcases h1.fresh K1 ok hD.nm hs (t := 26 + c) (a := 67 + nI c) (by rw [ix_la, ← Nat.add_assoc]) (by omega) with ⟨X2, Y2, b1, b2, b3⟩ | ⟨w, w1, w2, w3, b1, b2, -⟩
    · refine LE.bad ?_ ?_ (h1.fail b3)
      · unfold fX6_readRoute
        rw [ca_s rmk, it_f (by decide), ca_s (q1.trans b1), it_t rfl]; rfl
      · unfold fX12_readRoute
        rw [rA_l (by decide) (by decide), sc, it_f (nC), ca_s n1', ca_s b2, it_t rfl]; rfl
    · obtain ⟨X2, Y2, p2, n2, n2', h2, K2, -, pp2, -, -⟩ := (h1.yj (26 + c) (c8 w)).next
      have q2 := k_namM (s := 3) (a := 3) h1 rfl (by decide) ok.c3.1 (by omega) n2
      have b2' := b2.trans (ca_s n2')
      have s0 : Y2.1 221 3 = nI (ct D 3) := by rw [h2.s, hs 3 (by decide)]; exact ok.c3.1
      rcases h2.look K2 (s := 3) (f := 18) (c := ct D 3) (a := 3) (af := 59) (am := nI (ct D 3)) rfl (by decide) ok.c3.1 (by omega) rfl (by omega) rfl (fun i hi => by rw [uM_ne (by omega)]; exact hD.nm.2.2.1 i hi) with ⟨X3, Y3, d1, d2, d3⟩ | ⟨k, k1, d1, d2, -⟩
      · refine LE.bad ?_ ?_ (h2.fail d3)
        · unfold fX6_readRoute
          rw [ca_s rmk, it_f (by decide), ca_s (q1.trans b1), it_f (by decide), gJ_e, ca_s (q2.trans d1), it_t rfl]; rfl
        · unfold fX12_readRoute
          rw [rA_l (by decide) (by decide), sc, it_f nC, ca_s n1', ca_s b2', it_f (by decide), rA_l (by decide) (by decide), s0, ca_s (e_takesName0 d2), it_t rfl]; rfl
      · obtain ⟨X3, m1, h3⟩ := h2.add (a := 4) (x := X1.2.1 1 7) rfl (by decide) ec (by omega)
        obtain ⟨X5, Y5, p5, n5, n5', h5, K5, t5, pp5, sg5, -⟩ := (((((((h3.xi (j := 11) (by decide) c (nI k)).xi (j := 12) (by decide) c 0).xi (j := 14) (by decide) c 0).xi (j := 15) (by decide) c 0).xi (j := 16) (by decide) c 0).xi (j := 17) (by decide) c 0).got (nI k)).next
        have hf := (h5.yi (106 + c) (nI k)).yi 4 (nI (c + 1))
        rw [w2] at hf
        refine LE.ok (p' := p5) ?_ ?_ (hf.done (K5.y rfl rfl rfl rfl) ((DR_route w1 k1 hD hc rm).p (by omega)) hH h01 hl) hf.2.2.2.2.2.2.1 (by omega) (fun z => ?_)
        · unfold fX6_readRoute fX6_goOn
          rw [ca_s rmk, it_f (by decide), ca_s (q1.trans b1), it_f (by decide), gJ_e, ca_s (q2.trans d1), it_f (nI_m1 (by omega)), ca_s m1, wA_n rm (by decide), wA_n rm (by decide), wA_n rm (by decide), wA_n rm (by decide), wA_n rm (by decide), wA_n rm (by decide), ca_s (f := (ca fX10_next fun _ => re (1 : Int32))) (w := 1) (X' := X5) (by rw [ca_s n5]; rfl), rz_1]
        · unfold fX12_readRoute
          rw [rA_l (by decide) (by decide), sc, it_f nC, ca_s n1', ca_s b2', it_f (by decide), rA_l (by decide) (by decide), s0, ca_s (e_takesName (v := 0) d2 n5'), it_f (by decide), gI_e, t5, sI_eq, ix_la, wA_n (by omega) (by decide), rA_l (by decide) (by decide), show (sI Y5 221 (106 + c) (nI k)).1 221 4 = nI c by rw [(h5.yi (106 + c) (nI k)).s, upS_ne (by omega), hs 4 (by decide), ec], wA_l (by decide) (by decide), nI_1]
          rfl
        · obtain ⟨a, a1, a2, a3, a4⟩ := sg5 z
          exact ⟨a, a1, by omega, a3, a4⟩
  · rw [if_neg rm] at rmk
    refine LE.bad (X1 := wX X 4) (Y1 := wY Y 4) ?_ ?_ (h0.fail (FL.w hK.1))
    · unfold fX6_readRoute
      rw [ca_s rmk, it_t rfl]; rfl
    · unfold fX12_readRoute
      rw [rA_l (by decide) (by decide), sc, it_t (show nI c = 10 by rw [show c = 10 by omega]; rfl), ca_s (e_bad 4), rz_0]
end LN
