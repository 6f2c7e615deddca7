/-! over: both read the line -/
section OW
variable {X Y X1 Y1 X0 Y0 : X_} {n p : Nat} {D : m_V} {N : m_L} {S : Nat → Int32} {M : Nat → Int64} {hx hy lx ly : Int32}
theorem b_ab {x : Int32} {q : Nat} (hq : q < 32) : (x &&& (1 <<< (nI q &&& 31)) = 0) ↔ bt x q = false := by
  rw [b_and0]
  constructor
  · intro h
    cases z : bt x q
    · rfl
    · exact absurd ⟨z, by rw [b_bit hq hq]; exact decide_eq_true rfl⟩ (h q hq)
  · rintro h i hi ⟨a, b⟩
    rw [b_bit hq hi] at b
    rw [of_decide_eq_true b, h] at a
    exact absurd a (by decide)
theorem lowB_or {x : Int32} {q m : Nat} (h : lowB x m) (hq : q < m) (h32 : q < 32) : lowB (x ||| (1 <<< (nI q &&& 31))) m := fun i h1 h2 => by
  rw [b_or, h i h1 h2, b_bit h32 h2, decide_eq_false (by omega)]; rfl
theorem e_endD {r m g : Nat} (h : MS X0 Y0 n p D N S M hx hy lx ly X Y) (ok : okP D) (hr : r < 10) (hm : D 12 r = nI m) (m6 : m ≤ 6) (hg : D 11 r = nI g) (g8 : g < 8) : fX5_endOf 26 (nI r) X = some (p_endOf D r, X) := by
  unfold fX5_endOf
  have e : (nI r).toNatClampNeg = r := nI_clamp (by omega)
  rw [gd_t (by rw [e, h.d, hm, hg, nI_clamp (by omega), nI_clamp (by omega)]; exact ⟨rfl, ok, hr, rfl, m6, rfl, g8⟩), e, h.d]
theorem e_leads {k : Nat} {a b : Int32} (h : MS X0 Y0 n p D N S M hx hy lx ly X Y) (ok : okP D) (hk : k < 16) : fX5_leadsTo 26 (nI k) a b X = some (p_leadsTo D k a b, X) := by
  unfold fX5_leadsTo
  have e : (nI k).toNatClampNeg = k := nI_clamp (by omega)
  rw [gd_t (by rw [e, h.d]; exact ⟨rfl, ok, hk⟩), e, h.d]
theorem e_between {a b : Int32} (h : MS X0 Y0 n p D N S M hx hy lx ly X Y) (ok : okP D) : fX5_trackBetween 26 a b X = some (p_trackBetween D a b, X) := by
  rw [← h.d]
  exact gd_t (by rw [h.d]; exact ok)
theorem lead_iff {k la c : Nat} {y : Int32} (hla : la < 2 ^ 31) (hc : c < 2 ^ 31) : p_leadsTo D k (nI la) y = nI c ↔ oT D y (nI la) (nI c) k = true := by
  unfold p_leadsTo oT
  rw [decide_eq_true_iff]
  by_cases yy : y = 0
  · simp only [if_pos yy]
    by_cases e : D 5 k = nI la
    · rw [if_pos e]; exact ⟨fun z => ⟨e, z⟩, fun z => z.2⟩
    · rw [if_neg e]; exact ⟨fun z => absurd z.symm (nI_m1 hc), fun z => absurd z.1 e⟩
  · simp only [if_neg yy]
    by_cases e : D 6 k = nI la
    · rw [if_pos e]; exact ⟨fun z => ⟨z, e⟩, fun z => z.1⟩
    · rw [if_neg e]; exact ⟨fun z => absurd z.symm (nI_m1 hc), fun z => absurd z.2 e⟩
theorem between_T {k la c : Nat} {y : Int32} (hd : d2 D S) (h16 : ct D 2 ≤ 16) (hk : k < ct D 2) (h : oT D y (nI la) (nI c) k = true) : p_trackBetween D (nI la) (nI c) = nI k := by
  have e := of_decide_eq_true h
  unfold p_trackBetween
  have un : (D 5 k = nI la ∧ D 6 k = nI c ∨ D 5 k = nI c ∧ D 6 k = nI la) := by
    by_cases yy : y = 0
    · simp only [if_pos yy] at e; exact Or.inl e
    · simp only [if_neg yy] at e; exact Or.inr e
  refine ff_1st hk (by omega) (decide_eq_true un) (fun q hq => decide_eq_false (fun z => ?_))
  have := (hd k hk).2.2 q (by omega) (by
    rcases un with ⟨a1, a2⟩ | ⟨a1, a2⟩ <;> rcases z with ⟨b1, b2⟩ | ⟨b1, b2⟩ <;> rw [a1, a2, b1, b2]
    · exact Or.inl ⟨rfl, rfl⟩
    · exact Or.inr ⟨rfl, rfl⟩
    · exact Or.inr ⟨rfl, rfl⟩
    · exact Or.inl ⟨rfl, rfl⟩)
  omega
theorem r_readOver (h : LR X0 Y0 n p X Y) : LE X0 Y0 n p X Y fX6_readOver fX12_readOver := by
  have h0 := h.ms
  obtain ⟨-, hK, -, -, hD, ⟨hH, h01⟩, hl⟩ := h
  generalize bP X 26 = D at *
  generalize bPJ X 26 = N at *
  generalize Y.1 221 = S at *
  generalize (fun j => Y.2.1 223 (41 + j)) = M at *
  have C := hD.1
  have ok := C.1
  have bd := ok.bd
  have hs := C.2.1
  have s0 : ∀ {Z W : X_} {n p : Nat} {hx hy lx ly : Int32}, MS X0 Y0 n p D N S M hx hy lx ly Z W → W.1 221 0 = nI (ct D 0) := fun hh => by rw [hh.s, hs 0 (by decide)]; exact ok.c0.1
  have s4 : ∀ {Z W : X_} {n p : Nat} {hx hy lx ly : Int32}, MS X0 Y0 n p D N S M hx hy lx ly Z W → W.1 221 4 = nI (ct D 4) := fun hh => by rw [hh.s, hs 4 (by decide)]; exact ok.c4.1
  obtain ⟨X1, Y1, p1, n1, n1', h1, K1, -, pp1, -, -⟩ := h0.next
  have q1 := k_namM (s := 4) (a := 4) h0 rfl (by decide) ok.c4.1 (by omega) n1
  rcases h1.look K1 (s := 4) (f := 26) (c := ct D 4) (a := 4) (af := 67) (am := nI (ct D 4)) rfl (by decide) ok.c4.1 (by omega) rfl (by omega) rfl (fun i hi => hD.nm.2.2.2.1 i hi) with ⟨X3, Y3, d1, d2, d3⟩ | ⟨r, hr, d1, d2, -⟩
  · refine LE.bad ?_ ?_ (h1.fail d3)
    · unfold fX6_readOver
      rw [ca_s (q1.trans d1), it_t rfl]; rfl
    · unfold fX12_readOver
      rw [ca_s n1', rA_l (by decide) (by decide), s4 h1, ca_s d2, it_t rfl]; rfl
  · obtain ⟨⟨⟨g, hg, g3⟩, ⟨m, hm, m6, hov, hsec⟩, l15, l16, -, -⟩, ⟨b11, b12, b13, b15, b16, -⟩, -⟩ := hD.2.2.2.2.2.1.1 r hr
    have b13' : ∀ k, k < m → S (126 + 6 * r + k) = D 13 (r * 6 + k) := fun k hk => b13 k (by rw [hm, nI_clamp (by omega)]; exact hk)
    have h1g := h1.got (nI r)
    by_cases mm : m = 6
    · subst mm
      refine LE.bad (X1 := wX X1 4) (Y1 := wY (sI Y1 218 18 (nI r)) 4) ?_ ?_ (h1g.fail (FL.w (by rw [sI_ne (by decide)]; exact K1.1)))
      · unfold fX6_readOver
        rw [ca_s (q1.trans d1), it_f (nI_m1 (by omega)), k_P (show r < 10 by omega) (by decide) (by decide), h1.d, hm, it_f (by decide), ca_s (e_wrong 4), rz_0]
      · unfold fX12_readOver
        rw [ca_s n1', rA_l (by decide) (by decide), s4 h1, ca_s d2, it_f (by decide), gI_e, sI_eq, ix_la, rA_n (by omega) (by decide), h1g.s, b12, hm, it_t (show nI 6 = 6 from rfl), ca_s (e_bad 4), rz_0]
    · obtain ⟨X2, Y2, p2, n2, n2', h2, K2, -, pp2, -, -⟩ := h1g.next
      have q2 := k_namM (s := 0) (a := 0) h1 rfl (by decide) ok.c0.1 (by omega) n2
      have m5 : nI m < 6 := (nI_ltI (b := 6) (by omega) (by decide)).mpr (by omega)
      have n6 : ¬ nI m = 6 := fun z => mm ((nI_eq (b := 6) (by omega) (by decide)).mp z)
      have cm0 : ∀ {v : Int32} {Z : X_}, fX10_named 26 0 X2 = some (v, Z) → fX6_readOver X = (it (v = (-1)) (re 0) (ca (fX6_canGoOver (nI r) v) fun v4 => (it (v4 = 0) (ca (fX10_wrong 3) fun v6 => (rz v6)) (ca (fX6_addOver (nI r) v) fun _ => (ca fX6_goOn fun v5 => (rz v5)))))) Z := fun e => by
        unfold fX6_readOver
        rw [ca_s (q1.trans d1), it_f (nI_m1 (by omega)), k_P (show r < 10 by omega) (by decide) (by decide), h1.d, hm, it_t m5, ca_s (q2.trans e)]
      rcases h2.look K2 (s := 0) (f := 0) (c := ct D 0) (a := 0) (af := 41) (am := nI (ct D 0)) rfl (by decide) ok.c0.1 (by omega) rfl (by omega) rfl (fun i hi => hD.nm.1 i hi) with ⟨X3, Y3, e1, e2, e3⟩ | ⟨c, hc, e1, e2, -⟩
      · refine LE.bad ?_ ?_ (h2.fail e3)
        · rw [cm0 e1, it_t rfl]; rfl
        · unfold fX12_readOver
          rw [ca_s n1', rA_l (by decide) (by decide), s4 h1, ca_s d2, it_f (by decide), gI_e, sI_eq, ix_la, rA_n (by omega) (by decide), h1g.s, b12, hm, it_f n6, ca_s n2', rA_l (by decide) (by decide), s0 h2, ca_s e2, it_t rfl]; rfl
      · have h2g := h2.got (nI c)
        have cm := cm0 e1
        rw [it_f (nI_m1 (by omega))] at cm
        obtain ⟨⟨⟨ow, how, ow0⟩, y01⟩, ⟨z90, z98⟩, -, -⟩ := hD.2.2.2.2.1 g g3
        obtain ⟨la, hla, la0⟩ : ∃ la, p_endOf D r = nI la ∧ la < ct D 0 := by
          unfold p_endOf
          by_cases z : m = 0
          · rw [if_pos (by rw [hm, z]; rfl), hg, nI_clamp (by omega)]
            exact ⟨ow, how, ow0⟩
          · rw [if_neg (by rw [hm]; exact nI_n0 (by omega) z), hm, nI_clamp (by omega)]
            exact hov (m - 1) (by omega)
        have end0 := e_endD h2 ok (show r < 10 by omega) hm m6 hg (by omega)
        rw [hla] at end0
        -- the reference, up to the tracks
        have rf : fX12_readOver Y = (jo1 (fun w15 => (lz2 (fun L236 x16 x17 => (it (nI m ≤ x17) (it (x16 = 0) (rA 221 226 (58 + lo (fun k (a : Int32) => if oT D (D 10 g) (nI la) (nI c) k = true then nI k else a) (ct D 2) (-1)) fun v18 => (jo0 ((gI 218 18 fun v19 => (wA 221 226 ((126 + (6 * nI r)) + nI m) v19 (rA 221 226 (116 + nI r) fun v20 => (wA 221 226 (116 + nI r) (v20 + 1) (ca fX12_next fun _ => (re (1 : Int32)))))))) (fun J387 => (it (v18 ≤ 0) J387 (rA 221 226 (58 + lo (fun k (a : Int32) => if oT D (D 10 g) (nI la) (nI c) k = true then nI k else a) (ct D 2) (-1)) fun v21 => (rA 221 226 (74 + lo (fun k (a : Int32) => if oT D (D 10 g) (nI la) (nI c) k = true then nI k else a) (ct D 2) (-1)) fun v22 => (jo1 (fun w23 => (rA 221 226 ((382 - (w23 + nI r)) + (2 * nI r)) fun v24 => (it ((v24 &&& (1 <<< ((v21 - 1) &&& 31))) = 0) (rA 221 226 (w23 + nI r) fun v25 => (wA 221 226 (w23 + nI r) (v25 ||| (1 <<< ((v21 - 1) &&& 31))) J387)) (ca (fX12_bad 3) fun v26 => (rz v26))))) (fun J344 => (it (v22 = 0) (J344 186) (J344 196)))))))))) (ca (fX12_bad 3) fun v27 => (rz v27))) (it (x16 = 0) (rA 221 226 ((126 + (6 * nI r)) + x17) fun v28 => (gI 218 18 fun v29 => (it (v28 = v29) (L236 1 (x17 + 1)) (L236 0 (x17 + 1))))) (L236 1 (x17 + 1))))) FU w15 0)) (fun J231 => (it (lo (fun k (a : Int32) => if oT D (D 10 g) (nI la) (nI c) k = true then nI k else a) (ct D 2) (-1) < 0) (J231 1) (gI 218 18 fun v30 => (it (v30 = nI ow) (J231 1) (J231 0)))))) (sI Y2 218 18 (nI c)) := by
          have lp := e_oT (K := fun x12 => (jo1 (fun w15 => (lz2 (fun L236 x16 x17 => (it (nI m ≤ x17) (it (x16 = 0) (rA 221 226 (58 + x12) fun v18 => (jo0 ((gI 218 18 fun v19 => (wA 221 226 ((126 + (6 * nI r)) + nI m) v19 (rA 221 226 (116 + nI r) fun v20 => (wA 221 226 (116 + nI r) (v20 + 1) (ca fX12_next fun _ => (re (1 : Int32)))))))) (fun J387 => (it (v18 ≤ 0) J387 (rA 221 226 (58 + x12) fun v21 => (rA 221 226 (74 + x12) fun v22 => (jo1 (fun w23 => (rA 221 226 ((382 - (w23 + nI r)) + (2 * nI r)) fun v24 => (it ((v24 &&& (1 <<< ((v21 - 1) &&& 31))) = 0) (rA 221 226 (w23 + nI r) fun v25 => (wA 221 226 (w23 + nI r) (v25 ||| (1 <<< ((v21 - 1) &&& 31))) J387)) (ca (fX12_bad 3) fun v26 => (rz v26))))) (fun J344 => (it (v22 = 0) (J344 186) (J344 196)))))))))) (ca (fX12_bad 3) fun v27 => (rz v27))) (it (x16 = 0) (rA 221 226 ((126 + (6 * nI r)) + x17) fun v28 => (gI 218 18 fun v29 => (it (v28 = v29) (L236 1 (x17 + 1)) (L236 0 (x17 + 1))))) (L236 1 (x17 + 1))))) FU w15 0)) (fun J231 => (it (x12 < 0) (J231 1) (gI 218 18 fun v30 => (it (v30 = nI ow) (J231 1) (J231 0))))))) (y := D 10 g) (la := la) (c := c) h2g rfl bd.2.2.1 ok.c2.1 (hs 2 (by decide)) hD.2.2.2.1 sI_eq
          rw [← lp]
          unfold fX12_readOver
          rw [ca_s n1', rA_l (by decide) (by decide), s4 h1, ca_s d2, it_f (by decide), gI_e, sI_eq, ix_la, rA_n (by omega) (by decide), h1g.s, b12, hm, it_f n6, ca_s n2', rA_l (by decide) (by decide), s0 h2, ca_s e2, it_f (by decide), ix_la, rA_n (by omega) (by decide), h2g.s, b11, hg, ix_la, rA_n (by omega) (by decide), h2g.s, z98, rA_n (by omega) (by decide), h2g.s, b11, hg, ix_la, rA_n (by omega) (by decide), h2g.s, z90, how, jo1_e, it_e]
          by_cases z : m = 0
          · rw [if_pos (by rw [z]; rfl)]
            have : nI ow = nI la := by
              rw [← hla]
              unfold p_endOf
              rw [if_pos (by rw [hm, z]; rfl), hg, nI_clamp (by omega), how]
            rw [this]
          · rw [if_neg (nI_n0 (by omega) z), ix_lm, ix_la, nI_add, show nI (126 + 6 * r + m) - 1 = nI (126 + 6 * r + (m - 1)) by rw [show nI (126 + 6 * r + m) - 1 = nI (126 + 6 * r + m - 1) from ix_sub (c := 1) (by omega), show 126 + 6 * r + m - 1 = 126 + 6 * r + (m - 1) by omega], rA_n (by omega) (by decide), h2g.s, b13' (m - 1) (by omega)]
            have : D 13 (r * 6 + (m - 1)) = nI la := by
              rw [← hla]
              unfold p_endOf
              rw [if_neg (by rw [hm]; exact nI_n0 (by omega) z), hm, nI_clamp (by omega)]
            rw [this]
        have tb := e_between (a := nI la) (b := nI c) h2 ok
        have bad : fX6_canGoOver (nI r) (nI c) X2 = some (0, X2) → fX12_readOver Y = some (0, wY (sI Y2 218 18 (nI c)) 3) → LE X0 Y0 n p X Y fX6_readOver fX12_readOver := fun a1 a2 => by
          refine LE.bad (X1 := wX X2 3) ?_ a2 (h2g.fail (FL.w (by rw [sI_ne (by decide)]; exact K2.1)))
          rw [cm, ca_s a1, it_t rfl, ca_s (e_wrong 3), rz_0]
        have hm10 : D 10 g = (bP X2 26) 10 g := by rw [h2.d]
        rcases lo_last (oT D (D 10 g) (nI la) (nI c)) (ct D 2) with ⟨t1, t2⟩ | ⟨k, k1, k2, k3⟩
        · -- no track leads there
          refine bad ?_ ?_
          · unfold fX6_canGoOver
            rw [k_P (show r < 10 by omega) (by decide) (by decide), h2.d, hg, ca_s end0, ca_s tb, it_e]
            by_cases z : p_trackBetween D (nI la) (nI c) = -1
            · rw [if_pos z]; rfl
            · obtain ⟨k0, k1, k2, -⟩ := ff_get z
              have k2 : p_trackBetween D (nI la) (nI c) = nI k0 := k2
              rw [if_neg z, k2, k_P (show g < 8 by omega) (by decide) (by decide), h2.d, ca_s (e_leads h2 ok (by omega)), it_f (fun e => by
                rw [lead_iff (by omega) (by omega), t1 k0 k1] at e
                exact absurd e (by decide))]; rfl
          · rw [rf, t2, jo1_e, it_t (by decide)]
            exact (e_oH (c := c) h2g (by omega) m6 b13' sI_eq true).trans (by rw [Bool.true_or, if_pos rfl])
        · rw [k3] at rf
          have tb2 := between_T hD.2.2.2.1 bd.2.2.1 k1 k2
          rw [tb2] at tb
          obtain ⟨⟨-, x7, y8⟩, ⟨-, -, z58, z74⟩, -⟩ := hD.2.2.2.1 k k1
          have bsec : bt (D 14 r) c = oH D r m (nI c) := by
            rw [hsec, Bool.eq_iff_iff, p_secs_bt m m6 (fun k hk => by
              obtain ⟨q, q1, q2⟩ := hov k hk
              exact ⟨q, q1, by omega⟩) c (by omega)]
            unfold oH
            rw [an_iff]
            exact ⟨fun ⟨k, a, b⟩ => ⟨k, a, decide_eq_true b⟩, fun ⟨k, a, b⟩ => ⟨k, a, of_decide_eq_true b⟩⟩
          have can : fX6_canGoOver (nI r) (nI c) X2 = (it (((D 14 r >>> (nI c &&& 31)) &&& 1) = 1) (re 0) (rA (26 + 9) 8 (nI g) fun v7 => (it (v7 = nI c) (re 0) (rA (26 + 7) 16 (nI k) fun v8 => (rA (26 + 8) 16 (nI k) fun v9 => (jo1 (fun w10 => (it (v8 = (-1)) (re 1) (it (((w10 >>> (v8 &&& 31)) &&& 1) = 0) (re 1) (re 0)))) (fun J142 => (it (v9 = 0) (rA (26 + 16) 10 (nI r) fun v12 => (J142 v12)) (rA (26 + 15) 10 (nI r) fun v11 => (J142 v11)))))))))) X2 := by
            unfold fX6_canGoOver
            rw [k_P (show r < 10 by omega) (by decide) (by decide), h2.d, hg, ca_s end0, ca_s tb, it_f (nI_m1 (by omega)), k_P (show g < 8 by omega) (by decide) (by decide), h2.d, ca_s (e_leads h2 ok (by omega)), it_t ((lead_iff (by omega) (by omega)).mpr k2), k_P (show r < 10 by omega) (by decide) (by decide), h2.d]
          rw [b_tst (by omega), bsec] at can
          by_cases had : (decide (c = ow) || oH D r m (nI c)) = true
          · refine bad ?_ ?_
            · rw [can, it_e]
              by_cases z : oH D r m (nI c) = true
              · rw [z, if_pos (show b2 true = 1 from rfl)]; rfl
              · rw [Bool.eq_false_iff.mpr z, if_neg (show ¬ b2 false = 1 by decide), k_P (show g < 8 by omega) (by decide) (by decide), h2.d, how, it_t (by
                  rw [Bool.eq_false_iff.mpr z, Bool.or_false] at had
                  rw [of_decide_eq_true had])]; rfl
            · rw [rf, jo1_e, it_f (nI_pos (by omega)), gI_e, sI_eq, it_e]
              by_cases z : c = ow
              · rw [if_pos (by rw [z])]
                exact (e_oH (c := c) h2g (by omega) m6 b13' sI_eq true).trans (by rw [Bool.true_or, if_pos rfl])
              · rw [if_neg (fun q => z ((nI_eq (by omega) (by omega)).mp q))]
                rw [decide_eq_false z] at had
                exact (e_oH (c := c) h2g (by omega) m6 b13' sI_eq false).trans (by rw [if_pos had])
          · have nc : ¬ c = ow := fun z => had (by rw [decide_eq_true z]; rfl)
            have no : oH D r m (nI c) = false := by
              cases q : oH D r m (nI c)
              · rfl
              · exact absurd (by rw [q, Bool.or_true]) had
            rw [jo1_e, it_f (nI_pos (by omega)), gI_e, sI_eq, it_f (fun q => nc ((nI_eq (by omega) (by omega)).mp q))] at rf
            have rf2 := rf.trans ((e_oH (c := c) h2g (by omega) m6 b13' sI_eq false).trans (by rw [no, Bool.or_false, if_neg (by decide)]))
            rw [no, it_f (show ¬ b2 false = 1 by decide), k_P (show g < 8 by omega) (by decide) (by decide), h2.d, how, it_f (fun q => nc ((nI_eq (by omega) (by omega)).mp q.symm)), k_P (show k < 16 by omega) (by decide) (by decide), h2.d, k_P (show k < 16 by omega) (by decide) (by decide), h2.d, jo1_e] at can
            dsimp only at can
            rw [ix_la, rA_n (by omega) (by decide), h2g.s, z58, jo0_e] at rf2
            -- the rest, once the points are told
            have fin : ∀ (x15 x16 : Int32) (Xa Ya : X_), lowB x15 (ct D 1) → lowB x16 (ct D 1) → MS X0 Y0 n p2 (u2 (u2 D 15 r x15) 16 r x16) N (upS (upS S (186 + r) x15) (196 + r) x16) M (X.1 25 2) (Y.1 218 20) (X.1 25 1) (Y.1 218 19) Xa Ya → Ya.1 218 18 = nI c → fX6_readOver X = (ca (fun Z => ((rA (26 + 12) 10 (nI r) fun v4 => (wA (26 + 13) 60 ((nI r * 6) + v4) (nI c) (rA (26 + 12) 10 (nI r) fun v5 => (wA (26 + 12) 10 (nI r) (v5 + 1) (rA (26 + 14) 10 (nI r) fun v6 => (wA (26 + 14) 10 (nI r) (v6 ||| (1 <<< (nI c &&& 31))) (re ()))))))) Z)) fun _ => (ca fX6_goOn fun v5 => (rz v5))) Xa → fX12_readOver Y = (gI 218 18 fun v19 => (wA 221 226 ((126 + (6 * nI r)) + nI m) v19 (rA 221 226 (116 + nI r) fun v20 => (wA 221 226 (116 + nI r) (v20 + 1) (ca fX12_next fun _ => (re (1 : Int32))))))) Ya → LE X0 Y0 n p X Y fX6_readOver fX12_readOver := fun x15 x16 Xa Ya w15 w16 ha a18 fa ga => by
              have hb := ((((ha.xi (j := 13) (by decide) (r * 6 + m) (nI c)).xi (j := 12) (by decide) r (nI (m + 1))).xi (j := 14) (by decide) r (D 14 r ||| (1 <<< (nI c &&& 31)))).yi (126 + 6 * r + m) (nI c)).yi (116 + r) (nI (m + 1))
              obtain ⟨X5, Y5, p5, n5, n5', h5, K5, -, pp5, sg5, -⟩ := hb.next
              refine LE.ok (p' := p5) (X2 := X5) (Y2 := Y5) ?_ ?_ (h5.done K5 ((DR_over hr hm (by omega) hc w15 w16 hD).p (by omega)) hH h01 hl) h5.2.2.2.2.2.2.1 (by omega) (fun z => ?_)
              · have hc1 := ha.xi (j := 13) (by decide) (r * 6 + m) (nI c)
                have hc2 := hc1.xi (j := 12) (by decide) r (nI (m + 1))
                have e12 : bP Xa 26 12 r = nI m := by rw [ha.d, u2_row (by decide), u2_row (by decide)]; exact hm
                have e12' : bP (sI Xa (26 + 13) (r * 6 + m) (nI c)) 26 12 r = nI m := by rw [hc1.d, u2_row (by decide), u2_row (by decide), u2_row (by decide)]; exact hm
                have e14 : bP (sI (sI Xa (26 + 13) (r * 6 + m) (nI c)) (26 + 12) r (nI (m + 1))) 26 14 r = D 14 r := by rw [hc2.d, u2_row (by decide), u2_row (by decide), u2_row (by decide), u2_row (by decide)]
                rw [fa]
                unfold fX6_goOn
                rw [ca_s (w := ()) (X' := sI (sI (sI Xa (26 + 13) (r * 6 + m) (nI c)) (26 + 12) r (nI (m + 1))) (26 + 14) r (D 14 r ||| (1 <<< (nI c &&& 31)))) (by
                  rw [k_P (show r < 10 by omega) (by decide) (by decide), e12, ix_ml, nI_add, wA_n (by omega) (by decide), k_P (show r < 10 by omega) (by decide) (by decide), e12', nI_1, wA_n (by omega) (by decide), k_P (show r < 10 by omega) (by decide) (by decide), e14, wA_n (by omega) (by decide)]; rfl), ca_s (f := (ca fX10_next fun _ => re (1 : Int32))) (w := 1) (X' := X5) (by rw [ca_s n5]; rfl), rz_1]
              · have hy1 := ha.yi (126 + 6 * r + m) (nI c)
                rw [ga, gI_e, a18, ix_lm, ix_la, nI_add, wA_n (by omega) (by decide), ix_la, rA_n (by omega) (by decide), hy1.s, upS_ne (by omega), upS_ne (by omega), upS_ne (by omega), b12, hm, nI_1, wA_n (by omega) (by decide), ca_s n5']; rfl
              · obtain ⟨e, a1, a2, a3, a4⟩ := sg5 z
                exact ⟨e, a1, by omega, a3, a4⟩
            have addO : ∀ K : Unit → RM Int32, (ca (fX6_addOver (nI r) (nI c)) K) X2 = (ca (jo0 ((rA (26 + 12) 10 (nI r) fun v4 => (wA (26 + 13) 60 ((nI r * 6) + v4) (nI c) (rA (26 + 12) 10 (nI r) fun v5 => (wA (26 + 12) 10 (nI r) (v5 + 1) (rA (26 + 14) 10 (nI r) fun v6 => (wA (26 + 14) 10 (nI r) (v6 ||| (1 <<< (nI c &&& 31))) (re ())))))))) (fun J90 => (it (D 7 k = (-1)) J90 (rA (26 + 8) 16 (nI k) fun v7 => (it (v7 = 0) (rA (26 + 15) 10 (nI r) fun v9 => (wA (26 + 15) 10 (nI r) (v9 ||| (1 <<< (D 7 k &&& 31))) J90)) (rA (26 + 16) 10 (nI r) fun v8 => (wA (26 + 16) 10 (nI r) (v8 ||| (1 <<< (D 7 k &&& 31))) J90))))))) K) X2 := fun K => by
              have : fX6_addOver (nI r) (nI c) X2 = (jo0 ((rA (26 + 12) 10 (nI r) fun v4 => (wA (26 + 13) 60 ((nI r * 6) + v4) (nI c) (rA (26 + 12) 10 (nI r) fun v5 => (wA (26 + 12) 10 (nI r) (v5 + 1) (rA (26 + 14) 10 (nI r) fun v6 => (wA (26 + 14) 10 (nI r) (v6 ||| (1 <<< (nI c &&& 31))) (re ())))))))) (fun J90 => (it (D 7 k = (-1)) J90 (rA (26 + 8) 16 (nI k) fun v7 => (it (v7 = 0) (rA (26 + 15) 10 (nI r) fun v9 => (wA (26 + 15) 10 (nI r) (v9 ||| (1 <<< (D 7 k &&& 31))) J90)) (rA (26 + 16) 10 (nI r) fun v8 => (wA (26 + 16) 10 (nI r) (v8 ||| (1 <<< (D 7 k &&& 31))) J90))))))) X2 := by
                unfold fX6_addOver
                rw [ca_s end0, ca_s tb, jo1_e]
                dsimp only
                rw [it_f (nI_m1 (by omega)), k_P (show k < 16 by omega) (by decide) (by decide), h2.d]
              unfold ca
              rw [this]
            rcases x7 with x7 | ⟨q, x7, q1⟩
            · -- no points there
              have can1 : fX6_canGoOver (nI r) (nI c) X2 = some (1, X2) := by
                rw [can, it_e]
                by_cases z : D 8 k = 0
                · rw [if_pos z, k_P (show r < 10 by omega) (by decide) (by decide), it_t x7]; rfl
                · rw [if_neg z, k_P (show r < 10 by omega) (by decide) (by decide), it_t x7]; rfl
              rw [x7, it_t (by decide)] at rf2
              rw [ca_s can1, it_f (by decide), addO, x7] at cm
              refine fin (D 15 r) (D 16 r) X2 (sI Y2 218 18 (nI c)) l15 l16 ?_ sI_eq ?_ rf2
              · rw [u2_eta (V := D) rfl, u2_eta (V := D) rfl, upS_self b15, upS_self b16]
                exact h2g
              · rw [cm]
                unfold ca
                rw [jo0_e, it_t rfl]
            · -- points: how they must lie
              have nq : nI q + 1 = nI (q + 1) := nI_1 q
              have sub1 : nI (q + 1) - 1 = nI q := by rw [show nI (q + 1) - 1 = nI (q + 1 - 1) from ix_sub (c := 1) (by omega), Nat.add_sub_cancel]
              rw [x7, nq, it_f (show ¬ nI (q + 1) ≤ 0 from fun z => absurd ((nI_leI (b := 0) (by omega) (by decide)).mp z) (by omega)), rA_n (by omega) (by decide), h2g.s, z58, x7, nq, ix_la, rA_n (by omega) (by decide), h2g.s, z74, jo1_e] at rf2
              dsimp only at rf2
              rw [sub1] at rf2
              have i1 : (382 - (186 + nI r)) + (2 * nI r) = nI (196 + r) := by rw [ix_la, show (382 : Int32) - nI (186 + r) = nI (382 - (186 + r)) from ix_sub (a := 382) (by omega), ix_lm, nI_add, show 382 - (186 + r) + 2 * r = 196 + r by omega]
              have i2 : (382 - (196 + nI r)) + (2 * nI r) = nI (186 + r) := by rw [ix_la, show (382 : Int32) - nI (196 + r) = nI (382 - (196 + r)) from ix_sub (a := 382) (by omega), ix_lm, nI_add, show 382 - (196 + r) + 2 * r = 186 + r by omega]
              rcases y8 with y8 | y8
              · rw [y8, it_t rfl, k_P (show r < 10 by omega) (by decide) (by decide), h2.d, x7, it_f (nI_m1 (by omega)), b_tst (by omega)] at can
                rw [y8, it_t rfl, i1, rA_n (by omega) (by decide), h2g.s, b16] at rf2
                cases z : bt (D 16 r) q
                · rw [it_t ((b_ab (by omega)).mpr z), ix_la, rA_n (by omega) (by decide), h2g.s, b15, wA_n (by omega) (by decide)] at rf2
                  rw [z, it_t (show b2 false = 0 from rfl)] at can
                  rw [ca_s (can.trans rfl), it_f (by decide), addO, x7] at cm
                  refine fin (D 15 r ||| (1 <<< (nI q &&& 31))) (D 16 r) (sI X2 (26 + 15) r (D 15 r ||| (1 <<< (nI q &&& 31)))) (sI (sI Y2 218 18 (nI c)) 221 (186 + r) (D 15 r ||| (1 <<< (nI q &&& 31)))) (lowB_or l15 q1 (by omega)) l16 ?_ (by rw [sI_ne (by omega), sI_eq]) ?_ rf2
                  · have := (h2g.xi (j := 15) (by decide) r (D 15 r ||| (1 <<< (nI q &&& 31)))).yi (186 + r) (D 15 r ||| (1 <<< (nI q &&& 31)))
                    rw [u2_eta (V := u2 D 15 r (D 15 r ||| (1 <<< (nI q &&& 31)))) (u2_ne (by omega)), upS_self (by rw [upS_ne (by omega)]; exact b16)]
                    exact this
                  · rw [cm]
                    unfold ca
                    rw [jo0_e, it_f (nI_m1 (by omega)), k_P (show k < 16 by omega) (by decide) (by decide), h2.d, y8, it_t rfl, k_P (show r < 10 by omega) (by decide) (by decide), h2.d, wA_n (by omega) (by decide)]
                · rw [it_f (fun e => by rw [b_ab (by omega), z] at e; exact absurd e (by decide)), ca_s (e_bad 3), rz_0] at rf2
                  rw [z, it_f (show ¬ b2 true = 0 by decide)] at can
                  exact bad (can.trans rfl) rf2
              · rw [y8, it_f (by decide), k_P (show r < 10 by omega) (by decide) (by decide), h2.d, x7, it_f (nI_m1 (by omega)), b_tst (by omega)] at can
                rw [y8, it_f (by decide), i2, rA_n (by omega) (by decide), h2g.s, b15] at rf2
                cases z : bt (D 15 r) q
                · rw [it_t ((b_ab (by omega)).mpr z), ix_la, rA_n (by omega) (by decide), h2g.s, b16, wA_n (by omega) (by decide)] at rf2
                  rw [z, it_t (show b2 false = 0 from rfl)] at can
                  rw [ca_s (can.trans rfl), it_f (by decide), addO, x7] at cm
                  refine fin (D 15 r) (D 16 r ||| (1 <<< (nI q &&& 31))) (sI X2 (26 + 16) r (D 16 r ||| (1 <<< (nI q &&& 31)))) (sI (sI Y2 218 18 (nI c)) 221 (196 + r) (D 16 r ||| (1 <<< (nI q &&& 31)))) l15 (lowB_or l16 q1 (by omega)) ?_ (by rw [sI_ne (by omega), sI_eq]) ?_ rf2
                  · have := (h2g.xi (j := 16) (by decide) r (D 16 r ||| (1 <<< (nI q &&& 31)))).yi (196 + r) (D 16 r ||| (1 <<< (nI q &&& 31)))
                    rw [u2_eta (V := D) (j := 15) rfl, upS_self b15]
                    exact this
                  · rw [cm]
                    unfold ca
                    rw [jo0_e, it_f (nI_m1 (by omega)), k_P (show k < 16 by omega) (by decide) (by decide), h2.d, y8, it_f (by decide), k_P (show r < 10 by omega) (by decide) (by decide), h2.d, wA_n (by omega) (by decide)]
                · rw [it_f (fun e => by rw [b_ab (by omega), z] at e; exact absurd e (by decide)), ca_s (e_bad 3), rz_0] at rf2
                  rw [z, it_f (show ¬ b2 true = 0 by decide)] at can
                  exact bad (can.trans rfl) rf2
end OW
