/-! tracks -/
section TR
variable {X Y X1 Y1 X0 Y0 : X_} {n p : Nat} {D : m_V} {N : m_L} {S : Nat → Int32} {M : Nat → Int64} {hx hy lx ly : Int32}
theorem u2_comm {j k j' k' : Nat} {u v : Int32} (h : ¬ (j = j' ∧ k = k')) : u2 (u2 D j k u) j' k' v = u2 (u2 D j' k' v) j k u := by
  funext a b
  unfold u2
  by_cases c1 : a = j' ∧ b = k'
  · rw [if_pos c1, if_neg (fun z => h ⟨z.1.symm.trans c1.1, z.2.symm.trans c1.2⟩), if_pos c1]
  · rw [if_neg c1]
    by_cases c2 : a = j ∧ b = k
    · rw [if_pos c2, if_pos c2]
    · rw [if_neg c2, if_neg c2, if_neg c1]
theorem upS_4 {T : Nat → Int32} {a b : Nat} {u v u' v' : Int32} (h : ¬ a = b) : upS (upS (upS (upS T a u) b v) a u') b v' = upS (upS T a u') b v' := by
  rw [upS_comm (j := b) (k := a) (fun z => h z.symm), upS_upd, upS_upd]
/-- the one has failed; the other will, at the sign that is wanting -/
def L3 (X0 Y0 : X_) (X Y : X_) (f g : RM Int32) : Prop := ∃ X1 Y1, f X = some (0, X1) ∧ g Y = some (1, Y1) ∧ LF X0 X1 ∧ LG Y0 Y1 ∧ X1.1 1 9 = 1 ∧ X1.1 1 10 = Y1.1 218 12 ∧ fX12_isSign 59 Y1 = some (0, Y1)
theorem e_addTrack {c : Nat} {a b x y : Int32} (h : MS X0 Y0 n p D N S M hx hy lx ly X Y) (hc : D 1 2 = nI c) (h16 : c < 16) : ∃ X1, fX6_addTrack a b x y X = some ((), X1) ∧ MS X0 Y0 n p (u2 (u2 (u2 (u2 (u2 D 1 2 (nI (c + 1))) 5 c a) 6 c b) 7 c x) 8 c y) N S M hx hy lx ly X1 Y ∧ X1.1 1 = X.1 1 ∧ X1.2.1 1 = X.2.1 1 := by
  have h1 := ((((h.xi (j := 5) (by decide) c a).xi (j := 6) (by decide) c b).xi (j := 7) (by decide) c x).xi (j := 8) (by decide) c y).xi (j := 1) (by decide) 2 (nI (c + 1))
  refine ⟨sI (sI (sI (sI (sI X (26 + 5) c a) (26 + 6) c b) (26 + 7) c x) (26 + 8) c y) (26 + 1) 2 (nI (c + 1)), ?_, ?_, ?_, rfl⟩
  · unfold fX6_addTrack
    rw [k_Pl (by decide) (by decide) (by decide), h.d, hc, wA_n h16 (by decide), wA_n h16 (by decide), wA_n h16 (by decide), wA_n h16 (by decide), wA_l (by decide) (by decide), nI_1]
    rfl
  · rw [u2_comm (j := 8) (j' := 1) (by omega), u2_comm (j := 7) (j' := 1) (by omega), u2_comm (j := 6) (j' := 1) (by omega), u2_comm (j := 5) (j' := 1) (by omega)] at h1
    exact h1
  · rw [sI_row (by decide), sI_row (by decide), sI_row (by decide), sI_row (by decide), sI_row (by decide)]
theorem TK.x (h : TK X Y) (h1 : X1.1 1 = X.1 1) (h2 : X1.2.1 1 = X.2.1 1) : TK X1 Y := by unfold TK; rw [h1, h2]; exact h
def tkP (D : m_V) (a b : Nat) (i : Nat) : Bool := decide (D 5 i = nI a ∧ D 6 i = nI b ∨ D 5 i = nI b ∧ D 6 i = nI a)
/-- has a track the two already -/
theorem e_dup {c a b : Nat} {K : RM Int32} (h : MS X0 Y0 n p D N S M hx hy lx ly X Y) (hc : ct D 2 = c) (c16 : c ≤ 16) (hd : d2 D S) (h18 : Y.1 218 18 = nI b) (z : Bool) : (lz2 (fun L79 x9 x10 => (it (nI c ≤ x10) (it (x9 = 0) K (ca (fX12_bad 3) fun v16 => (rz v16))) (it (x9 = 0) (rA 221 226 (26 + x10) fun v17 => (jo0 ((rA 221 226 (26 + x10) fun v18 => (gI 218 18 fun v19 => (it (v18 = v19) (rA 221 226 (42 + x10) fun v20 => (it (v20 = nI a) (L79 1 (x10 + 1)) (L79 0 (x10 + 1)))) (L79 0 (x10 + 1)))))) (fun J120 => (it (v17 = nI a) (rA 221 226 (42 + x10) fun v21 => (gI 218 18 fun v22 => (it (v21 = v22) (L79 1 (x10 + 1)) J120))) J120)))) (L79 1 (x10 + 1))))) FU (b2 z) 0) Y = if (z || an (tkP D a b) c) = true then some (0, wY Y 3) else K Y := by
  have main := lz2_from (B := (fun L79 x9 x10 => (it (nI c ≤ x10) (it (x9 = 0) K (ca (fX12_bad 3) fun v16 => (rz v16))) (it (x9 = 0) (rA 221 226 (26 + x10) fun v17 => (jo0 ((rA 221 226 (26 + x10) fun v18 => (gI 218 18 fun v19 => (it (v18 = v19) (rA 221 226 (42 + x10) fun v20 => (it (v20 = nI a) (L79 1 (x10 + 1)) (L79 0 (x10 + 1)))) (L79 0 (x10 + 1)))))) (fun J120 => (it (v17 = nI a) (rA 221 226 (42 + x10) fun v21 => (gI 218 18 fun v22 => (it (v21 = v22) (L79 1 (x10 + 1)) J120))) J120)))) (L79 1 (x10 + 1)))))) (fun i => b2 (z || an (tkP D a b) i)) (fun _ => Y) (n := c) (E := if (z || an (tkP D a b) c) = true then some (0, wY Y 3) else K Y) (fun i L hi => ?_) (fun L => ?_) c 0 FU (by omega) (by rw [FU_eq]; omega)
  · have e0 : (z || an (tkP D a b) 0) = z := by rw [an, Bool.or_false]
    rw [e0] at main
    exact main
  · obtain ⟨-, ⟨s5, s6, -, -⟩, -⟩ := hd i (by omega)
    rw [it_f (nI_ge hi (by omega)), an]
    cases q : (z || an (tkP D a b) i)
    · have e : (z || (an (tkP D a b) i || tkP D a b i)) = tkP D a b i := by rw [← Bool.or_assoc, q, Bool.false_or]
      rw [it_t (show b2 false = 0 from rfl), ix_la, rA_n (by omega) (by decide), h.s, s5, jo0_e, e, nI_1]
      unfold tkP
      have j120 : (rA 221 226 (nI (26 + i)) fun v18 => (gI 218 18 fun v19 => (it (v18 = v19) (rA 221 226 (nI (42 + i)) fun v20 => (it (v20 = nI a) (L 1 (nI (i + 1))) (L 0 (nI (i + 1))))) (L 0 (nI (i + 1)))))) Y = L (b2 (decide (D 5 i = nI b ∧ D 6 i = nI a))) (nI (i + 1)) Y := by
        rw [rA_n (by omega) (by decide), h.s, s5, gI_e, h18, it_e]
        by_cases c1 : D 5 i = nI b
        · rw [if_pos c1, rA_n (by omega) (by decide), h.s, s6, it_e]
          by_cases c2 : D 6 i = nI a
          · rw [if_pos c2, decide_eq_true ⟨c1, c2⟩]; rfl
          · rw [if_neg c2, decide_eq_false (fun z => c2 z.2)]; rfl
        · rw [if_neg c1, decide_eq_false (fun z => c1 z.1)]; rfl
      rw [it_e]
      by_cases c1 : D 5 i = nI a
      · rw [if_pos c1, ix_la, rA_n (by omega) (by decide), h.s, s6, gI_e, h18, it_e]
        by_cases c2 : D 6 i = nI b
        · rw [if_pos c2, decide_eq_true (Or.inl ⟨c1, c2⟩)]; rfl
        · rw [if_neg c2, j120]
          congr 2
          rw [decide_eq_decide]
          exact ⟨fun z => Or.inr z, fun z => by rcases z with z | z; exact absurd z.2 c2; exact z⟩
      · rw [if_neg c1, ix_la, j120]
        congr 2
        rw [decide_eq_decide]
        exact ⟨fun z => Or.inr z, fun z => by rcases z with z | z; exact absurd z.1 c1; exact z⟩
    · have e : (z || (an (tkP D a b) i || tkP D a b i)) = true := by rw [← Bool.or_assoc, q, Bool.true_or]
      rw [it_f (show ¬ b2 true = 0 by decide), e, nI_1]; rfl
  · rw [it_t (nI_le (Nat.le_refl _) (by omega))]
    cases q : (z || an (tkP D a b) c)
    · rw [it_t (show b2 false = 0 from rfl), if_neg (by decide)]
    · rw [it_f (show ¬ b2 true = 0 by decide), if_pos rfl, ca_s (e_bad 3), rz_0]
theorem r_readTrack (h : LR X0 Y0 n p X Y) : LE X0 Y0 n p X Y fX6_readTrack fX12_readTrack ∨ L3 X0 Y0 X Y fX6_readTrack fX12_readTrack := by
  have h0 := h.ms
  obtain ⟨-, hK, -, -, hD, ⟨hH, h01⟩, hl⟩ := h
  generalize bP X 26 = D at *
  generalize bPJ X 26 = N at *
  generalize hSd : Y.1 221 = S at *
  generalize (fun j => Y.2.1 223 (41 + j)) = M at *
  have C := hD.1
  have ok := C.1
  have bd := ok.bd
  have hs := C.2.1
  obtain ⟨c, hc⟩ : ∃ c, ct D 2 = c := ⟨_, rfl⟩
  have ec : D 1 2 = nI c := by rw [← hc]; exact ok.c2.1
  have sc : Y.1 221 2 = nI c := by rw [h0.s, hs 2 (by decide), ec]
  have c12 : c ≤ 16 := by rw [← hc]; exact ok.c2.2
  have rmk := k_room (X := X) (a := 2) (m := 16) (s := 2) (most := 16) (c := c) rfl (by decide) rfl (by rw [h0.d]; exact ec) (by omega) (by decide)
  by_cases rm : c < 16
  · rw [if_pos rm] at rmk
    have nC : ¬ nI c = 16 := ne_lit (m := 16) rfl rm (by decide)
    have s0 : ∀ {Z W : X_} {n p : Nat} {hx hy lx ly : Int32}, MS X0 Y0 n p D N S M hx hy lx ly Z W → W.1 221 0 = nI (ct D 0) := fun hh => by rw [hh.s, hs 0 (by decide)]; exact ok.c0.1
    obtain ⟨X1, Y1, p1, n1, n1', h1, K1, -, pp1, -, -⟩ := h0.next
    have q1 := k_namM (s := 0) (a := 0) h0 rfl (by decide) ok.c0.1 (by omega) n1
    rcases h1.look K1 (s := 0) (f := 0) (c := ct D 0) (a := 0) (af := 41) (am := nI (ct D 0)) rfl (by decide) ok.c0.1 (by omega) rfl (by omega) rfl (fun i hi => hD.nm.1 i hi) with ⟨X3, Y3, d1, d2, d3⟩ | ⟨a, ha, d1, d2, -⟩
    · refine Or.inl (LE.bad ?_ ?_ (h1.fail d3))
      · unfold fX6_readTrack
        rw [ca_s rmk, it_f (by decide), ca_s (q1.trans d1), jo1_e]
        dsimp only
        rw [it_t rfl, it_t rfl]; rfl
      · unfold fX12_readTrack
        rw [rA_l (by decide) (by decide), sc, it_f nC, ca_s n1', rA_l (by decide) (by decide), s0 h1, ca_s (e_takesName0 d2), it_t rfl]; rfl
    · obtain ⟨X2, Y2, p2, n2, n2', h2, K2, t2, pp2, -, -⟩ := (h1.got (nI a)).next
      have q2 := k_namM (s := 0) (a := 0) h1 rfl (by decide) ok.c0.1 (by omega) n2
      have tn := e_takesName (v := 0) d2 n2'
      have g18 : Y2.1 218 18 = nI a := t2.trans sI_eq
      rcases h2.look K2 (s := 0) (f := 0) (c := ct D 0) (a := 0) (af := 41) (am := nI (ct D 0)) rfl (by decide) ok.c0.1 (by omega) rfl (by omega) rfl (fun i hi => hD.nm.1 i hi) with ⟨X3, Y3, e1, e2, e3⟩ | ⟨b, hb, e1, e2, -⟩
      · refine Or.inl (LE.bad ?_ ?_ (h2.fail e3))
        · unfold fX6_readTrack
          rw [ca_s rmk, it_f (by decide), ca_s (q1.trans d1), jo1_e]
          dsimp only
          rw [it_f (nI_m1 (by omega)), ca_s (q2.trans e1), it_t rfl]; rfl
        · unfold fX12_readTrack
          rw [rA_l (by decide) (by decide), sc, it_f nC, ca_s n1', rA_l (by decide) (by decide), s0 h1, ca_s tn, it_f (by decide), gI_e, rA_l (by decide) (by decide), s0 h2, ca_s e2, it_t rfl]; rfl
      · have h2g := h2.got (nI b)
        have tb : fX5_trackBetween 26 (nI a) (nI b) X2 = some (p_trackBetween D (nI a) (nI b), X2) := by rw [← h2.d]; exact gd_t (by rw [h2.d]; exact ok)
        have hff : p_trackBetween D (nI a) (nI b) = -1 ↔ an (tkP D a b) c = false := by
          unfold p_trackBetween
          rw [hc]
          exact ff_an (by omega)
        -- the reference, up to the place where the track is new
        have rf : fX12_readTrack Y = if (decide (b = a) || an (tkP D a b) c) = true then some (0, wY (sI Y2 218 18 (nI b)) 3) else (wA 221 226 (26 + nI c) (nI a) (gI 218 18 fun v11 => (wA 221 226 (42 + nI c) v11 (wA 221 226 (58 + nI c) 0 (wA 221 226 (74 + nI c) 0 (ca fX12_next fun _ => (gI 218 11 fun v12 => (it (v12 = 1) (ca (fX12_readLie (nI c)) fun v14 => (it (v14 = 0) (re 0) (rA 221 226 2 fun v15 => (wA 221 226 2 (v15 + 1) (re 1))))) (rA 221 226 2 fun v13 => (wA 221 226 2 (v13 + 1) (re 1))))))))))) (sI Y2 218 18 (nI b)) := by
          rw [← e_dup (K := (wA 221 226 (26 + nI c) (nI a) (gI 218 18 fun v11 => (wA 221 226 (42 + nI c) v11 (wA 221 226 (58 + nI c) 0 (wA 221 226 (74 + nI c) 0 (ca fX12_next fun _ => (gI 218 11 fun v12 => (it (v12 = 1) (ca (fX12_readLie (nI c)) fun v14 => (it (v14 = 0) (re 0) (rA 221 226 2 fun v15 => (wA 221 226 2 (v15 + 1) (re 1))))) (rA 221 226 2 fun v13 => (wA 221 226 2 (v13 + 1) (re 1)))))))))))) h2g hc c12 hD.2.2.2.1 sI_eq (decide (b = a))]
          unfold fX12_readTrack
          rw [rA_l (by decide) (by decide), sc, it_f nC, ca_s n1', rA_l (by decide) (by decide), s0 h1, ca_s tn, it_f (by decide), gI_e, rA_l (by decide) (by decide), s0 h2, ca_s e2, it_f (by decide), gI_e, sI_eq, g18, jo1_e, it_e]
          by_cases z : b = a
          · rw [if_pos (by rw [z]), decide_eq_true z]; rfl
          · rw [if_neg (fun q => z ((nI_eq (by omega) (by omega)).mp q)), decide_eq_false z]; rfl
        by_cases z : (decide (b = a) || an (tkP D a b) c) = true
        · rw [if_pos z] at rf
          refine Or.inl (LE.bad (X1 := wX X2 3) ?_ rf (h2g.fail (FL.w (by rw [sI_ne (by decide)]; exact K2.1))))
          unfold fX6_readTrack
          rw [ca_s rmk, it_f (by decide), ca_s (q1.trans d1), jo1_e]
          dsimp only
          rw [it_f (nI_m1 (by omega)), ca_s (q2.trans e1), it_f (nI_m1 (by omega)), it_e]
          by_cases y : nI a = nI b
          · rw [if_pos y, ca_s (e_wrong 3), rz_0]
          · rw [if_neg y, ca_s tb, it_f (fun q => by
              rw [hff] at q
              rw [q, Bool.or_false] at z
              exact y (by rw [of_decide_eq_true z])), ca_s (e_wrong 3), rz_0]
        · rw [if_neg z] at rf
          have nab : ¬ a = b := fun q => z (by rw [decide_eq_true q.symm]; rfl)
          have nan : an (tkP D a b) c = false := by
            cases q : an (tkP D a b) c
            · rfl
            · exact absurd (by rw [q, Bool.or_true]) z
          have nn : ∀ j, j < ct D 2 → ¬ (D 5 j = nI a ∧ D 6 j = nI b ∨ D 5 j = nI b ∧ D 6 j = nI a) := fun j hj e => by
            have := (an_iff (P := tkP D a b) c).mpr ⟨j, by omega, decide_eq_true e⟩
            rw [nan] at this
            exact absurd this (by decide)
          have hw := (((h2g.yi (26 + c) (nI a)).yi (42 + c) (nI b)).yi (58 + c) 0).yi (74 + c) 0
          obtain ⟨X3, Y3, p3, n3, n3', h3, K3, -, pp3, sg3, -⟩ := hw.next
          have cm : fX6_readTrack X = (ca (fX10_isSign 59) fun v6 => (it (v6 = 0) (ca (fX6_readPointsBy (nI a) (nI b)) fun v7 => (jo1 (fun w8 => (it (w8 = (-1)) (re 0) (ca fX10_next fun _ => (ca (fX6_addTrack (nI a) (nI b) v7 w8) fun _ => (re 1))))) (fun J117 => (it (v7 = (-1)) (J117 (-1)) (ca (fX10_nextOfTwo 9) fun v9 => (J117 v9)))))) (ca (fX6_addTrack (nI a) (nI b) (-1) 0) fun _ => (re 1)))) X3 := by
            unfold fX6_readTrack
            rw [ca_s rmk, it_f (by decide), ca_s (q1.trans d1), jo1_e]
            dsimp only
            rw [it_f (nI_m1 (by omega)), ca_s (q2.trans e1), it_f (nI_m1 (by omega)), it_f (fun q => nab ((nI_eq (by omega) (by omega)).mp q)), ca_s tb, it_t (hff.mpr nan), ca_s n3]
          have rf2 : fX12_readTrack Y = (gI 218 11 fun v12 => (it (v12 = 1) (ca (fX12_readLie (nI c)) fun v14 => (it (v14 = 0) (re 0) (rA 221 226 2 fun v15 => (wA 221 226 2 (v15 + 1) (re 1))))) (rA 221 226 2 fun v13 => (wA 221 226 2 (v13 + 1) (re 1))))) Y3 := by
            rw [rf, ix_la, wA_n (by omega) (by decide), gI_e, sI_ne (by omega), sI_eq, ix_la, wA_n (by omega) (by decide), ix_la, wA_n (by omega) (by decide), ix_la, wA_n (by omega) (by decide), ca_s n3']
          have s2 : ∀ {T : Nat → Int32} {u v x y : Int32}, T = upS (upS (upS (upS S (26 + c) u) (42 + c) v) (58 + c) x) (74 + c) y → T 2 = nI c := fun e => by rw [e, upS_ne (by omega), upS_ne (by omega), upS_ne (by omega), upS_ne (by omega), hs 2 (by decide), ec]
          have end1 : (rA 221 226 2 fun v13 => (wA 221 226 2 (v13 + 1) (re (1 : Int32)))) Y3 = some (1, sI Y3 221 2 (nI (c + 1))) := by
            rw [rA_l (by decide) (by decide), s2 h3.s, nI_1, wA_l (by decide) (by decide)]; rfl
          by_cases w : X3.1 1 4 = 1
          · -- points
            obtain ⟨w0, w1⟩ : Y3.1 218 11 = 1 ∧ t_isSign (bT X3) 59 = false := by
              rcases K3.word with ⟨_, -, -, q, -⟩ | ⟨q, -⟩
              · exact ⟨q, by rw [t_isSign_e, decide_eq_false (fun z => by rw [w] at z; exact absurd z.1 (by decide))]⟩
              · exact absurd w q
            rw [ca_s (k_isSign 59), w1, it_t (show b2 false = 0 from rfl)] at cm
            rw [gI_e, w0, it_t rfl] at rf2
            have s1 : Y3.1 221 1 = nI (ct D 1) := by rw [h3.s, upS_ne (by omega), upS_ne (by omega), upS_ne (by omega), upS_ne (by omega), hs 1 (by decide)]; exact ok.c1.1
            rcases h3.look K3 (s := 1) (f := 12) (c := ct D 1) (a := 1) (af := 53) (am := nI (ct D 1)) rfl (by decide) ok.c1.1 (by omega) rfl (by omega) rfl (fun i hi => hD.nm.2.1 i hi) with ⟨X4, Y4, f1, f2, f3⟩ | ⟨q, hq, f1, f2, -⟩
            · refine Or.inl (LE.bad (X1 := X4) (Y1 := Y4) ?_ ?_ (h3.fail f3))
              · rw [cm]
                unfold fX6_readPointsBy
                rw [ca_s (f := (ca (fX10_named 26 1) fun v1 => (it (v1 = (-1)) (re (-1)) (rA (26 + 4) 6 v1 fun v2 => (it (v2 = nI a) (re v1) (it (v2 = nI b) (re v1) (ca (fX10_wrong 3) fun v3 => (re (-1))))))))) (w := -1) (X' := X4) (by rw [ca_s f1, it_t rfl]; rfl), jo1_e]
                dsimp only
                rw [it_t rfl, it_t rfl]; rfl
              · rw [rf2]
                unfold fX12_readLie
                rw [ca_s (w := 0) (X' := Y4) (by rw [rA_l (by decide) (by decide), s1, ca_s f2, it_t rfl]; rfl), it_t rfl]; rfl
            · have h3g := h3.got (nI q)
              obtain ⟨-, s20, -⟩ := hD.2.2.1 q hq
              have g26 : (sI Y3 218 18 (nI q)).1 221 (26 + c) = nI a := by rw [h3g.s, upS_ne (by omega), upS_ne (by omega), upS_ne (by omega), upS_eq]
              have g42 : (sI Y3 218 18 (nI q)).1 221 (42 + c) = nI b := by rw [h3g.s, upS_ne (by omega), upS_ne (by omega), upS_eq]
              have g20 : (sI Y3 218 18 (nI q)).1 221 (20 + q) = D 4 q := by rw [h3g.s, upS_ne (by omega), upS_ne (by omega), upS_ne (by omega), upS_ne (by omega)]; exact s20
              by_cases ab : D 4 q = nI a ∨ D 4 q = nI b
              · -- the points lie at one end
                have cp : fX6_readPointsBy (nI a) (nI b) X3 = some (nI q, X3) := by
                  unfold fX6_readPointsBy
                  rw [ca_s f1, it_f (nI_m1 (by omega)), k_P (show q < 6 by omega) (by decide) (by decide), h3.d, it_e]
                  by_cases y : D 4 q = nI a
                  · rw [if_pos y]; rfl
                  · rw [if_neg y, it_t (by rcases ab with y' | y'; exact absurd y' y; exact y')]; rfl
                obtain ⟨X4, Y4, p4, n4, n4', h4, K4, -, pp4, -, -⟩ := (h3g.yi (58 + c) (nI q + 1)).next
                have q4 : fX10_nextOfTwo 9 X3 = k_tw 9 X4 := (k_nextTwo h3.b.ok).trans (ca_s n4)
                rw [ca_s cp, jo1_e] at cm
                dsimp only at cm
                rw [it_f (nI_m1 (by omega))] at cm
                have lie : fX12_readLie (nI c) Y3 = (ca (fX12_isWord 32199706527560549) fun v7 => (jo0 ((it (v7 = 0) (wA 221 226 (74 + nI c) 0 (ca fX12_next fun _ => (re (1 : Int32)))) (wA 221 226 (74 + nI c) 1 (ca fX12_next fun _ => (re 1))))) (fun J118 => (it (v7 = 0) (ca (fX12_isWord 121424940196204) fun v8 => (it (v8 = 0) (ca (fX12_bad 1) fun v9 => (rz v9)) J118)) J118)))) Y4 := by
                  unfold fX12_readLie
                  rw [rA_l (by decide) (by decide), s1, ca_s f2, it_f (by decide), gI_e, sI_eq, ix_la, rA_n (by omega) (by decide), g20, ix_la, rA_n (by omega) (by decide), g26, jo0_e, it_e]
                  have j71 : (gI 218 18 fun v6 => (wA 221 226 (58 + nI c) (v6 + 1) (ca fX12_next fun _ => (ca (fX12_isWord 32199706527560549) fun v7 => (jo0 ((it (v7 = 0) (wA 221 226 (74 + nI c) 0 (ca fX12_next fun _ => (re (1 : Int32)))) (wA 221 226 (74 + nI c) 1 (ca fX12_next fun _ => (re 1))))) (fun J118 => (it (v7 = 0) (ca (fX12_isWord 121424940196204) fun v8 => (it (v8 = 0) (ca (fX12_bad 1) fun v9 => (rz v9)) J118)) J118))))))) (sI Y3 218 18 (nI q)) = (ca (fX12_isWord 32199706527560549) fun v7 => (jo0 ((it (v7 = 0) (wA 221 226 (74 + nI c) 0 (ca fX12_next fun _ => (re (1 : Int32)))) (wA 221 226 (74 + nI c) 1 (ca fX12_next fun _ => (re 1))))) (fun J118 => (it (v7 = 0) (ca (fX12_isWord 121424940196204) fun v8 => (it (v8 = 0) (ca (fX12_bad 1) fun v9 => (rz v9)) J118)) J118)))) Y4 := by
                    rw [gI_e, sI_eq, ix_la, wA_n (by omega) (by decide), ca_s n4']
                  by_cases y : D 4 q = nI a
                  · rw [if_pos y]; exact j71
                  · rw [if_neg y, gI_e, sI_eq, ix_la, rA_n (by omega) (by decide), g20, ix_la, rA_n (by omega) (by decide), g42, it_t (by rcases ab with y' | y'; exact absurd y' y; exact y')]
                    exact j71
                have fin : ∀ y : Int32, (y = 0 ∨ y = 1) → k_tw 9 X4 = some (y, X4) → fX12_readLie (nI c) Y3 = (wA 221 226 (74 + nI c) y (ca fX12_next fun _ => (re 1))) Y4 → LE X0 Y0 n p X Y fX6_readTrack fX12_readTrack := fun y y01 y1 y2 => by
                  have yp := y01_pos y01
                  obtain ⟨X5, Y5, p5, n5, n5', h5, K5, -, pp5, sg5, -⟩ := (h4.yi (74 + c) y).next
                  obtain ⟨X6, m1, h6, m2, m3⟩ := e_addTrack (a := nI a) (b := nI b) (x := nI q) (y := y) h5 ec rm
                  rw [ix_la, wA_n (by omega) (by decide), ca_s n5', re_e] at y2
                  have h7 := h6.yi 2 (nI (c + 1))
                  rw [upS_4 (show ¬ 58 + c = 74 + c by omega)] at h7
                  refine LE.ok (p' := p5) (X2 := X6) (Y2 := sI Y5 221 2 (nI (c + 1))) ?_ ?_ (h7.done ((K5.x m2 m3).y rfl rfl rfl rfl) ((DR_track ha hb nab (Or.inr ⟨q, rfl, hq⟩) y01 nn hD hc rm).p (by omega)) hH h01 hl) h7.2.2.2.2.2.2.1 (by omega) (fun z => ?_)
                  · rw [cm, ca_s (q4.trans y1), it_f yp.2, ca_s n5, ca_s m1]; rfl
                  · rw [rf2, ca_s y2, it_f (by decide), rA_l (by decide) (by decide), show Y5.1 221 2 = nI c by rw [h5.s, upS_ne (by omega), upS_ne (by omega)]; exact s2 rfl, nI_1, wA_l (by decide) (by decide)]; rfl
                  · rw [m2] at z ⊢
                    obtain ⟨e, a1, a2, a3, a4⟩ := sg5 z
                    exact ⟨e, a1, by omega, a3, a4⟩
                rw [ca_s (e_isWord K4 (k := 10) (by decide) kw_b.2.1.symm), jo0_e] at lie
                rcases k_tw_cases K4 (j := 9) (w := 9) rfl (by decide) with ⟨e, t⟩ | ⟨e, t⟩ | ⟨y1, y2, t⟩
                · refine Or.inl (fin 0 (Or.inl rfl) t ?_)
                  rw [decide_eq_false (fun z => by rw [e] at z; exact absurd ((nI_eq (by omega) (by omega)).mp z) (by omega)), it_t (show b2 false = 0 from rfl), ca_s (e_isWord K4 (k := 9) (by decide) kw_b.1.symm), decide_eq_true e, it_f (show ¬ b2 true = 0 by decide), it_t (show b2 false = 0 from rfl)] at lie
                  exact lie
                · refine Or.inl (fin 1 (Or.inr rfl) t ?_)
                  rw [decide_eq_true e, it_f (show ¬ b2 true = 0 by decide), it_f (show ¬ b2 true = 0 by decide)] at lie
                  exact lie
                · rw [decide_eq_false y2, it_t (show b2 false = 0 from rfl), ca_s (e_isWord K4 (k := 9) (by decide) kw_b.1.symm), decide_eq_false y1, it_t (show b2 false = 0 from rfl), ca_s (e_bad 1), rz_0] at lie
                  refine Or.inl (LE.bad (X1 := wX X4 1) (Y1 := wY Y4 1) ?_ ?_ (h4.fail (FL.w K4.1)))
                  · rw [cm, ca_s (q4.trans t), it_t rfl]; rfl
                  · rw [rf2, ca_s lie, it_t rfl]; rfl
              · refine Or.inl (LE.bad (X1 := wX X3 3) (Y1 := wY (sI Y3 218 18 (nI q)) 3) ?_ ?_ (h3g.fail (FL.w (by rw [sI_ne (by decide)]; exact K3.1))))
                · have cp : fX6_readPointsBy (nI a) (nI b) X3 = some (-1, wX X3 3) := by
                    unfold fX6_readPointsBy
                    rw [ca_s f1, it_f (nI_m1 (by omega)), k_P (show q < 6 by omega) (by decide) (by decide), h3.d, it_f (fun z => ab (Or.inl z)), it_f (fun z => ab (Or.inr z)), ca_s (e_wrong 3)]; rfl
                  rw [cm, ca_s cp, jo1_e]
                  dsimp only
                  rw [it_t rfl, it_t rfl]; rfl
                · have lie : fX12_readLie (nI c) Y3 = some (0, wY (sI Y3 218 18 (nI q)) 3) := by
                    unfold fX12_readLie
                    rw [rA_l (by decide) (by decide), s1, ca_s f2, it_f (by decide), gI_e, sI_eq, ix_la, rA_n (by omega) (by decide), g20, ix_la, rA_n (by omega) (by decide), g26, jo0_e, it_f (fun z => ab (Or.inl z)), gI_e, sI_eq, ix_la, rA_n (by omega) (by decide), g20, ix_la, rA_n (by omega) (by decide), g42, it_f (fun z => ab (Or.inr z)), ca_s (e_bad 3), rz_0]
                  rw [rf2, ca_s lie, it_t rfl]; rfl
          · have w0 : ¬ Y3.1 218 11 = 1 := by
              rcases K3.word with ⟨_, -, q, -⟩ | ⟨-, q, -⟩
              · exact absurd q w
              · exact q
            rw [gI_e, it_f w0, end1] at rf2
            cases y : t_isSign (bT X3) 59
            · refine Or.inr ⟨wX X3 1, sI Y3 221 2 (nI (c + 1)), ?_, rf2, h3.f.k (kS.w _ _), h3.g.h, ?_, ?_, ?_⟩
              · rw [cm, ca_s (k_isSign 59), y, it_t (show b2 false = 0 from rfl)]
                have cp : fX6_readPointsBy (nI a) (nI b) X3 = some (-1, wX X3 1) := by
                  unfold fX6_readPointsBy
                  rw [ca_s (show fX10_named 26 1 X3 = some (-1, wX X3 1) by
                    rw [k_named (a := 1) (s := 1) (c := ct D 1) rfl (by decide) (by rw [h3.d]; exact ok.c1.1) (by omega)]
                    unfold k_nm
                    rw [if_neg (fun z => w (of_decide_eq_true z).1)]), it_t rfl]; rfl
                rw [ca_s cp, jo1_e]
                dsimp only
                rw [it_t rfl, it_t rfl]; rfl
              · exact (FL.w (Y := Y3) (w := 1) K3.1).2.2.1.trans (by show (sI (sI Y3 218 15 1) 218 16 (Y3.1 218 12)).1 218 15 = 1; rw [sI_ne (by decide), sI_eq])
              · rw [sI_ne (by decide), ← K3.1]
                show (sI (sI X3 1 9 1) 1 10 (X3.1 1 5)).1 1 10 = _
                rw [sI_eq]
              · have := e_isSignR (K3.y (Y1 := sI Y3 221 2 (nI (c + 1))) rfl rfl rfl rfl) (k0 := 59) (c := 59) rfl (Or.inl rfl)
                rw [y] at this
                exact this
            · obtain ⟨X6, m1, h6, m2, m3⟩ := e_addTrack (a := nI a) (b := nI b) (x := -1) (y := 0) h3 ec rm
              have h7 := h6.yi 2 (nI (c + 1))
              refine Or.inl (LE.ok (p' := p3) (X2 := X6) (Y2 := sI Y3 221 2 (nI (c + 1))) ?_ rf2 (h7.done ((K3.x m2 m3).y rfl rfl rfl rfl) ((DR_track ha hb nab (Or.inl rfl) (Or.inl rfl) nn hD hc rm).p (by omega)) hH h01 hl) h7.2.2.2.2.2.2.1 (by omega) (fun z => ?_))
              · rw [cm, ca_s (k_isSign 59), y, it_f (show ¬ b2 true = 0 by decide), ca_s m1]; rfl
              · rw [m2] at z ⊢
                obtain ⟨e, a1, a2, a3, a4⟩ := sg3 z
                exact ⟨e, a1, by omega, a3, a4⟩
  · rw [if_neg rm] at rmk
    refine Or.inl (LE.bad (X1 := wX X 4) (Y1 := wY Y 4) ?_ ?_ (h0.fail (FL.w hK.1)))
    · unfold fX6_readTrack
      rw [ca_s rmk, it_t rfl]; rfl
    · unfold fX12_readTrack
      rw [rA_l (by decide) (by decide), sc, it_t (show nI c = 16 by rw [show c = 16 by omega]; rfl), ca_s (e_bad 4), rz_0]
end TR
