/-! a book: all lines; one line done -/
section BN
variable {X Y X1 Y1 X0 Y0 : X_} {n p : Nat} {W1 W2 W3 T : Nat → Int32} {lx ly : Int32} {P V : m_V}
theorem BS.x126 (h : BS X0 Y0 n p W1 W2 W3 T lx ly X Y) (v : Int32) : BS X0 Y0 n p W1 W2 W3 T v ly (sI X 126 3 v) Y := by
  obtain ⟨⟨hB, hB9, hB15⟩, hF, hG, ⟨h1, h2, h3⟩, h4, h5, h6⟩ := h
  exact ⟨⟨hB.x (sI_row (by omega)) (sI_row (by omega)) rfl, by rw [sI_ne (by omega)]; exact hB9, hB15⟩, ⟨fun a q1 q2 => (sI_row (by omega)).trans (hF.1 a q1 q2), fun j hj => (sI_ne (by omega)).trans (hF.2.1 j hj), hF.2.2.1, hF.2.2.2⟩, hG, ⟨by rw [sI_row (by decide)]; exact h1, by rw [sI_row (by decide)]; exact h2, by rw [sI_row (by decide)]; exact h3⟩, h4, sI_eq, h6⟩
theorem BS.y38 (h : BS X0 Y0 n p W1 W2 W3 T lx ly X Y) (v : Int32) : BS X0 Y0 n p W1 W2 W3 T lx v X (sI Y 218 38 v) := by
  obtain ⟨⟨hB, hB9, hB15⟩, hF, hG, h1, h4, h5, h6⟩ := h
  exact ⟨⟨hB.y (sI_ne (by omega)) (sI_ne (by omega)) (sI_ne (by omega)) (sI_row (by decide)) rfl, hB9, by rw [sI_ne (by omega)]; exact hB15⟩, hF, ⟨fun a q1 q2 => (sI_row q1).trans (hG.1 a q1 q2), fun j hj => (sI_ne (by omega)).trans (hG.2.1 j hj), hG.2.2.1, hG.2.2.2⟩, h1, by rw [sI_row (by decide)]; exact h4, h5, sI_eq⟩
noncomputable def kBC : Nat → RM Int32 := (lz0 (fun L16 => (gI 1 4 fun v1 => (it (v1 = 0) (re 1) (gI 126 3 fun v2 => (it (40 < v2) (re 1) (ca fX0_readLine fun v3 => (it (v3 = 0) (re 0) (ca (fX10_mustBe 59) fun v4 => (it (v4 = 0) (re 0) (gI 126 3 fun v5 => (pI 126 3 (v5 + 1) (ca fX10_next fun _ => L16)))))))))))))
def kBR (F : RM Int32) : Nat → RM Int32 := (lz0 (fun L39 => (gI 218 11 fun v2 => (it (v2 = 0) F (ca fX12_bookLine fun v19 => (it (v19 = 0) (gI 218 16 fun v20 => (re ((-2) - v20))) (ca (fX12_sign 59) fun v21 => (it (v21 = 0) (gI 218 16 fun v23 => (re ((-2) - v23))) (gI 218 38 fun v22 => (pI 218 38 (v22 + 1) L39))))))))))
theorem kBC_s {f : Nat} : kBC (f + 1) = (gI 1 4 fun v1 => (it (v1 = 0) (re 1) (gI 126 3 fun v2 => (it (40 < v2) (re 1) (ca fX0_readLine fun v3 => (it (v3 = 0) (re 0) (ca (fX10_mustBe 59) fun v4 => (it (v4 = 0) (re 0) (gI 126 3 fun v5 => (pI 126 3 (v5 + 1) (ca fX10_next fun _ => kBC f))))))))))) := rfl
theorem kBR_s {F : RM Int32} {f : Nat} : kBR F (f + 1) = (gI 218 11 fun v2 => (it (v2 = 0) F (ca fX12_bookLine fun v19 => (it (v19 = 0) (gI 218 16 fun v20 => (re ((-2) - v20))) (ca (fX12_sign 59) fun v21 => (it (v21 = 0) (gI 218 16 fun v23 => (re ((-2) - v23))) (gI 218 38 fun v22 => (pI 218 38 (v22 + 1) (kBR F f))))))))) := rfl
def BZ (X0 Y0 : X_) (n : Nat) (o u : Option (Int32 × X_)) (F : RM Int32) : Prop := (∃ X1 Y1, o = some (0, X1) ∧ u = some ((-2) - Y1.1 218 16, Y1) ∧ LXb X0 Y0 X1 Y1) ∨ ∃ X1 Y1 p' l, o = some (1, X1) ∧ u = F Y1 ∧ BL X0 Y0 n p' (bP X0 4) l (nI l) (nI l) X1 Y1 ∧ l ≤ 40
theorem bk_full {l : Nat} {Q V : m_V} (hW : Wd (bP X0 4) (bPJ X0 4) V Q (Y0.1 220) (Y0.2.1 223)) (h : BL X0 Y0 n p (bP X0 4) l (nI l) (nI l) X Y) (K : TK X Y) (e : l = 40) (h1 : fX0_readLine X = some (1, X1)) : False := by
  subst e
  have hlx : X.1 126 3 = nI 40 := by
    obtain ⟨_, _, _, _, h0, -⟩ := h
    exact h0.2.2.2.2.2.1
  unfold fX0_readLine at h1
  rw [gI_e] at h1
  by_cases c : ¬ X.1 1 8 = 13 ∧ ¬ X.1 1 8 = 14 ∧ ¬ X.1 1 8 = 15 ∧ ¬ X.1 1 8 = 16 ∧ ¬ X.1 1 8 = 19 ∧ ¬ X.1 1 8 = 20
  · rw [ca_s (act_no c.1 c.2.1 c.2.2.1 c.2.2.2.1 c.2.2.2.2.1 c.2.2.2.2.2), it_t rfl, ca_s (e_wrong 1), rz_0] at h1
    exact absurd (Prod.mk.inj (Option.some.inj h1)).1 (by decide)
  · have a : fX0_isAct (X.1 1 8) X = some (1, X) := by
      unfold fX0_isAct
      rw [it_e, it_e, it_e, it_e, it_e, it_e]
      by_cases c1 : X.1 1 8 = 13
      · rw [if_pos c1]; rfl
      rw [if_neg c1]
      by_cases c2 : X.1 1 8 = 14
      · rw [if_pos c2]; rfl
      rw [if_neg c2]
      by_cases c3 : X.1 1 8 = 15
      · rw [if_pos c3]; rfl
      rw [if_neg c3]
      by_cases c4 : X.1 1 8 = 16
      · rw [if_pos c4]; rfl
      rw [if_neg c4]
      by_cases c5 : X.1 1 8 = 19
      · rw [if_pos c5]; rfl
      rw [if_neg c5]
      by_cases c6 : X.1 1 8 = 20
      · rw [if_pos c6]; rfl
      exact absurd ⟨c1, c2, c3, c4, c5, c6⟩ c
    rw [ca_s a, it_f (by decide), gI_e, hlx, it_f (by decide), ca_s (e_wrong 4), rz_0] at h1
    exact absurd (Prod.mk.inj (Option.some.inj h1)).1 (by decide)
theorem r_bkLines_step {Q V : m_V} (hW : Wd (bP X0 4) (bPJ X0 4) V Q (Y0.1 220) (Y0.2.1 223)) (F : RM Int32) (m fc fr : Nat) (X Y : X_) (p l : Nat) (h : BL X0 Y0 n p (bP X0 4) l (nI l) (nI l) X Y) (K : TK X Y) (hl : l ≤ 40) (hm : n - p ≤ m) (hfc : m < fc) (hfr : m < fr) (ih : ∀ m', m' + 1 = m → ∀ fc fr X Y p l, BL X0 Y0 n p (bP X0 4) l (nI l) (nI l) X Y → TK X Y → l ≤ 40 → n - p ≤ m' → m' < fc → m' < fr → BZ X0 Y0 n (kBC fc X) (kBR F fr Y) F) : BZ X0 Y0 n (kBC fc X) (kBR F fr Y) F := by
  obtain ⟨fc, rfl⟩ : ∃ g, fc = g + 1 := ⟨fc - 1, by omega⟩
  obtain ⟨fr, rfl⟩ : ∃ g, fr = g + 1 := ⟨fr - 1, by omega⟩
  have hlx : X.1 126 3 = nI l := by
    obtain ⟨_, _, _, _, h0, -⟩ := h
    exact h0.2.2.2.2.2.1
  rw [kBC_s, kBR_s, gI_e, gI_e]
  by_cases e : X.1 1 4 = 0
  · rw [it_t e, it_t (K.end.mp e)]
    exact Or.inr ⟨X, Y, p, l, rfl, rfl, h, hl⟩
  · rw [it_f e, it_f (fun z => e (K.end.mpr z)), gI_e, hlx, it_f (show ¬ 40 < nI l from fun z => absurd ((nI_ltI (a := 40) (by decide) (by omega)).mp z) (by omega))]
    obtain ⟨v, X1, Y1, h1, h2, h3⟩ := r_bkLine hW h K hl
    rcases h3 with ⟨rfl, h3⟩ | ⟨rfl, p1, h3, K1, pp, sg⟩
    · rw [ca_s h1, it_t rfl, ca_s h2, it_t rfl]
      exact Or.inl ⟨X1, Y1, rfl, rfl, h3⟩
    · rw [ca_s h1, it_f (by decide), ca_s h2, it_f (by decide)]
      have sgn1 := e_isSignR K1 (k0 := 59) (c := 59) rfl (Or.inl rfl)
      have mb := k_mustBe (X := X1) 59
      obtain ⟨W1, W2, W3, T, h4, hR⟩ := h3
      have l39 : l < 40 := by
        rcases Nat.lt_or_ge l 40 with c | c
        · exact c
        · exfalso
          have e40 : l = 40 := by omega
          exact bk_full hW h K e40 h1
      cases z : t_isSign (bT X1) 59
      · rw [z] at sgn1 mb
        rw [if_neg (by decide)] at mb
        rw [ca_s mb, it_t rfl, ca_s (w := 0) (X' := wY Y1 1) (by
          unfold fX12_sign
          rw [ca_s sgn1, it_t (show b2 false = 0 from rfl), ca_s (e_bad 1), rz_0]), it_t rfl]
        exact Or.inl ⟨wX X1 1, wY Y1 1, rfl, rfl, h4.fail (FL.w K1.1)⟩
      · rw [z] at sgn1 mb
        rw [if_pos rfl] at mb
        obtain ⟨z4, -⟩ := of_decide_eq_true z
        obtain ⟨a, a1, a2, a3, a4⟩ := sg z4
        obtain ⟨X2, Y2, p2, n2, n2', h5, K2, -, pp2, -, -⟩ := (h4.x126 (nI (l + 1))).next
        have h6 := h5.y38 (nI (l + 1))
        have sg2 : fX12_sign 59 Y1 = some (1, Y2) := by
          unfold fX12_sign
          rw [ca_s sgn1, it_f (show ¬ b2 true = 0 by decide), ca_s n2']; rfl
        rw [ca_s mb, it_f (by decide), gI_e, pI_e, h4.2.2.2.2.2.1, nI_1, ca_s n2, ca_s sg2, it_f (by decide), gI_e, h5.2.2.2.2.2.2, nI_1, pI_e]
        have p1n := h4.b.2.2.1
        have p2n := h6.b.2.2.1
        exact ih (m - 1) (by omega) fc fr X2 (sI Y2 218 38 (nI (l + 1))) p2 (l + 1) ⟨_, _, _, _, h6, hR⟩ (K2.y (by rw [sI_ne (by decide)]) (by rw [sI_ne (by decide)]) (by rw [sI_ne (by decide)]) rfl) (by omega) (by omega) (by omega) (by omega)
theorem r_bkLines {Q V : m_V} (hW : Wd (bP X0 4) (bPJ X0 4) V Q (Y0.1 220) (Y0.2.1 223)) (F : RM Int32) : ∀ m fc fr X Y p l, BL X0 Y0 n p (bP X0 4) l (nI l) (nI l) X Y → TK X Y → l ≤ 40 → n - p ≤ m → m < fc → m < fr → BZ X0 Y0 n (kBC fc X) (kBR F fr Y) F := by
  intro m
  induction m with
  | zero =>
    intro fc fr X Y p l h K hl hm hfc hfr
    exact r_bkLines_step hW F 0 fc fr X Y p l h K hl hm hfc hfr (fun m' hm' => by omega)
  | succ m ih =>
    intro fc fr X Y p l h K hl hm hfc hfr
    exact r_bkLines_step hW F (m + 1) fc fr X Y p l h K hl hm hfc hfr (fun m' hm' fc fr X Y p l h K hl hm hfc hfr => ih fc fr X Y p l h K hl (by omega) (by omega) (by omega))
/-- what a line changes in the trial -/
def f54 (X X' : X_) : Prop := (∀ a, ¬ (54 ≤ a ∧ a < 61) → X'.1 a = X.1 a) ∧ X'.2 = X.2
theorem bk_2 {b m : Nat} {W : m_V} : (bk X b m W (bL m X b)).2 = X.2 := by
  refine Prod.ext ?_ rfl
  funext a
  by_cases c : b ≤ a ∧ a < b + m
  · obtain ⟨j, rfl⟩ : ∃ j, a = b + j := ⟨a - b, by omega⟩
    rw [bk_inJ (by omega)]
    funext k
    exact if_pos (by omega)
  · exact bk_rowJ c
theorem f54_bk {W : m_V} : f54 X (bk X 54 7 W (bVJ X 54)) ∧ bV (bk X 54 7 W (bVJ X 54)) 54 = trim 7 W := ⟨⟨fun a h => bk_row h, bk_2⟩, bB_bk⟩
theorem f54.refl (X : X_) : f54 X X := ⟨fun _ _ => rfl, rfl⟩
theorem r_live {i : Nat} {a b c : Int32} (hL : wfL P) (hP : bP X 4 = P) (hN : wfN P (bV X 54)) (hM : wfM P (bV X 54)) (hR : RLa P (Y.1 220)) (hS : RW P (bV X 54) (Y.1 220)) (hi : i < 40) (h1 : BR1 P (X.1 127 i) (X.1 128 i) (X.1 129 i) a b c) : ∃ v X' S', fX0_liveLine (nI i) X = some (v, X') ∧ fX12_does a b c Y = some (v, rowS Y S') ∧ (v = 0 ∨ (¬ v ≤ 0 ∧ ¬ v = 0 ∧ S' = Y.1 220)) ∧ f54 X X' ∧ wfN P (bV X' 54) ∧ wfM P (bV X' 54) ∧ RW P (bV X' 54) S' ∧ fr (Y.1 220) S' := by
  have ok := hL.ok
  have bd := ok.bd
  generalize hV : bV X 54 = V at *
  obtain ⟨k, e2, rfl, h1⟩ := h1
  have self : rowS Y (Y.1 220) = Y := rowS_self
  -- an act
  have act : ∀ w f : Int32, X.1 127 i = w → X.1 129 i = f → ¬ w = 20 → k < 2 ^ 31 → (w = 13 ∨ w = 14 → k < ct P 4) → (w = 15 → k < 6) → fX0_liveLine (nI i) X = (it (s_perform P V w k f = 0) (re 0) (rA 127 40 (nI i) fun v6 => (ca (fX0_tensOf v6) fun v7 => (re (v7 + s_perform P V w k f))))) (bk X 54 7 (s_performV P V w k f) (bVJ X 54)) := fun w f ew ef n20 hk g1 g2 => by
    unfold fX0_liveLine
    rw [rA_n hi (by decide), ew, it_f n20, rA_n hi (by decide), ew, rA_n hi (by decide), e2, rA_n hi (by decide), ef, ca_s (w := s_perform P V w k f) (X' := bk X 54 7 (s_performV P V w k f) (bVJ X 54))]
    unfold fX8_perform
    have e : (nI k).toNatClampNeg = k := nI_clamp hk
    rw [gd_t (by rw [e, hP]; exact ⟨rfl, wfP_of hL, g1, g2⟩), e, hP, hV]
  have no : ∀ w f : Int32, X.1 127 i = w → s_performV P V w k f = V → ∀ t v, fX0_tensOf w (bk X 54 7 V (bVJ X 54)) = some (t, bk X 54 7 V (bVJ X 54)) → fX0_liveLine (nI i) X = (it (s_perform P V w k f = 0) (re 0) (rA 127 40 (nI i) fun v6 => (ca (fX0_tensOf v6) fun v7 => (re (v7 + s_perform P V w k f))))) (bk X 54 7 (s_performV P V w k f) (bVJ X 54)) → ¬ s_perform P V w k f = 0 → t + s_perform P V w k f = v → ¬ v ≤ 0 → ¬ v = 0 → fX12_does a (nI k) c Y = some (v, Y) → ∃ v X' S', fX0_liveLine (nI i) X = some (v, X') ∧ fX12_does a (nI k) c Y = some (v, rowS Y S') ∧ (v = 0 ∨ (¬ v ≤ 0 ∧ ¬ v = 0 ∧ S' = Y.1 220)) ∧ f54 X X' ∧ wfN P (bV X' 54) ∧ wfM P (bV X' 54) ∧ RW P (bV X' 54) S' ∧ fr (Y.1 220) S' := fun w f ew eV t v ht hl hn hv v1 v2 hd => by
    rw [eV, it_f hn, rA_n hi (by decide), show (bk X 54 7 V (bVJ X 54)).1 127 = X.1 127 from bk_row (by omega), ew, ca_s ht, hv] at hl
    have f := f54_bk (X := X) (W := V)
    have ev : eqV V (bV (bk X 54 7 V (bVJ X 54)) 54) := by rw [f.2]; exact eqV.trim
    exact ⟨v, _, Y.1 220, hl, by rw [self]; exact hd, Or.inr ⟨v1, v2, rfl⟩, f.1, ev.wfN ok hN, ev.wfM ok hM, ev.RW ok hS, fun _ _ => rfl⟩
  have yes : ∀ (w f : Int32) (V' : m_V) (S' : Nat → Int32), fX0_liveLine (nI i) X = (it (s_perform P V w k f = 0) (re 0) (rA 127 40 (nI i) fun v6 => (ca (fX0_tensOf v6) fun v7 => (re (v7 + s_perform P V w k f))))) (bk X 54 7 (s_performV P V w k f) (bVJ X 54)) → s_perform P V w k f = 0 → s_performV P V w k f = V' → wfN P V' → wfM P V' → RW P V' S' → fr (Y.1 220) S' → fX12_does a (nI k) c Y = some (0, rowS Y S') → ∃ v X' S', fX0_liveLine (nI i) X = some (v, X') ∧ fX12_does a (nI k) c Y = some (v, rowS Y S') ∧ (v = 0 ∨ (¬ v ≤ 0 ∧ ¬ v = 0 ∧ S' = Y.1 220)) ∧ f54 X X' ∧ wfN P (bV X' 54) ∧ wfM P (bV X' 54) ∧ RW P (bV X' 54) S' ∧ fr (Y.1 220) S' := fun w f V' S' hl h0 eV n1 m1 r1 f1 hd => by
    rw [it_t h0, eV] at hl
    have f := f54_bk (X := X) (W := V')
    have ev : eqV V' (bV (bk X 54 7 V' (bVJ X 54)) 54) := by rw [f.2]; exact eqV.trim
    exact ⟨0, _, S', hl, hd, Or.inl rfl, f.1, ev.wfN ok n1, ev.wfM ok m1, ev.RW ok r1, f1⟩
  have upf : ∀ {j : Nat} {v : Int32}, 226 ≤ j → j < 288 → fr (Y.1 220) (upS (Y.1 220) j v) := fun h1 h2 q hq => upS_ne (by omega)
  rcases h1 with ⟨ew, rfl, hk⟩ | ⟨ew, rfl, hk⟩ | ⟨ew, rfl, hk⟩ | ⟨ew, rfl, hk, hf, rfl⟩ | ⟨ew, rfl, hk⟩ | ⟨ew, rfl, hk1, hk2⟩
  · -- set
    have hl := act 13 _ ew rfl (by decide) (by omega) (fun _ => hk) (fun e => absurd e (by decide))
    have p1 : s_perform P V 13 k (X.1 129 i) = s_whyNotSet P V k := rfl
    have p2 : s_performV P V 13 k (X.1 129 i) = s_setV P V k := rfl
    have hw := e_whySet (X := Y) hR ok hL.r hS.1 hN hk
    by_cases q : s_whyNotSet P V k = 0
    · refine yes 13 _ _ (upS (Y.1 220) (229 + k) 1) hl (p1.trans q) p2 (hN.setV k) (hM.of (by rw [s_setV, if_pos q, u2_ne (by omega)]) (fun t => by rw [s_setV, if_pos q, u2_ne (by omega)])) (hS.setV ok hk q) (upf (by omega) (by omega)) ?_
      unfold fX12_does
      rw [it_t rfl, ca_s hw, q, it_t rfl, ix_la, wA_n (by omega) (by decide), it_t (by decide), rowS_s0]; rfl
    · refine no 13 _ ew (by rw [p2, s_setV, if_neg q]) 0 (s_whyNotSet P V k) rfl hl (by rw [p1]; exact q) (by rw [p1, Int32.zero_add]) (why_pos q) q ?_
      unfold fX12_does
      rw [it_t rfl, ca_s hw, it_f q, it_f (why_pos q), show (10 : Int32) * 0 = 0 from rfl, Int32.add_zero]; rfl
  · -- back
    have hl := act 14 _ ew rfl (by decide) (by omega) (fun _ => hk) (fun e => absurd e (by decide))
    have p1 : s_perform P V 14 k (X.1 129 i) = s_back V k := rfl
    have p2 : s_performV P V 14 k (X.1 129 i) = s_backV P V k := rfl
    by_cases q : V 1 k = 1
    · have q0 : s_back V k = 0 := by rw [s_back, if_pos q]
      obtain ⟨S', g1, g2, g3⟩ := e_putsBack (X := Y) (S := Y.1 220) hR hL hS hk q
      rw [rowS_self] at g1
      refine yes 14 _ _ S' hl (p1.trans q0) p2 (hN.backV hL hk) (hM.of (by unfold s_backV; rw [if_pos q]; split <;> simp (disch := omega) only [u2_ne]) (fun t => by unfold s_backV; rw [if_pos q]; split <;> simp (disch := omega) only [u2_ne])) g2 g3 ?_
      unfold fX12_does
      rw [it_f (by decide), it_t rfl, ix_la, rA_n (by omega) (by decide), hS.1.how hk, jo1_e, it_t q]; dsimp only; rw [it_t rfl, ca_s g1, it_t (by decide)]; rfl
    · have q0 : s_back V k = 1 := by rw [s_back, if_neg q]
      refine no 14 _ ew (by rw [p2, s_backV, if_neg q]) 10 11 rfl hl (by rw [p1, q0]; decide) (by rw [p1, q0]; rfl) (by decide) (by decide) ?_
      unfold fX12_does
      rw [it_f (by decide), it_t rfl, ix_la, rA_n (by omega) (by decide), hS.1.how hk, jo1_e, it_f q]; dsimp only; rw [it_f (by decide), it_f (by decide)]; rfl
  · -- throw
    have hl := act 15 _ ew rfl (by decide) (by omega) (fun e => absurd e (by decide)) (fun _ => by omega)
    have p1 : s_perform P V 15 k (X.1 129 i) = s_whyThrow P V k := rfl
    have p2 : s_performV P V 15 k (X.1 129 i) = s_throwV P V k := rfl
    have hw := e_whyThrow (X := Y) hR hL hS.1 hN hk
    by_cases q : s_whyThrow P V k = 0
    · refine yes 15 _ _ (upS (Y.1 220) 228 (Y.1 220 228 ^^^ (1 <<< (nI k &&& 31)))) hl (p1.trans q) p2 (hN.throwV ok hk) (hM.of (by rw [s_throwV, if_pos q, u2_ne (by omega)]) (fun t => by rw [s_throwV, if_pos q, u2_ne (by omega)])) (hS.throwV ok q) (upf (by omega) (by omega)) ?_
      unfold fX12_does
      rw [it_f (by decide), it_f (by decide), it_t rfl, ca_s hw, q, it_t rfl, rA_l (by decide) (by decide), wA_l (by decide) (by decide), it_t (by decide), rowS_s0]; rfl
    · refine no 15 _ ew (by rw [p2, s_throwV, if_neg q]) 20 (s_whyThrow P V k + 20) rfl hl (by rw [p1]; exact q) (by rw [p1, Int32.add_comm]) ?_ ?_ ?_
      · rcases thr_in P V k with e | e | e
        · exact absurd e q
        · rw [e]; decide
        · rw [e]; decide
      · rcases thr_in P V k with e | e | e
        · exact absurd e q
        · rw [e]; decide
        · rw [e]; decide
      · unfold fX12_does
        rw [it_f (by decide), it_f (by decide), it_t rfl, ca_s hw, it_f q, it_f (thr_pos q)]; rfl
  · -- fail
    have hl := act 16 _ ew rfl (by decide) (by omega) (fun e => by rcases e with e | e <;> exact absurd e (by decide)) (fun e => absurd e (by decide))
    generalize X.1 129 i = f at *
    have p1 : s_perform P V 16 k f = s_fail V (nI k) f := rfl
    have p2 : s_performV P V 16 k f = s_failV V (nI k) f := rfl
    by_cases q : s_failing V (nI k) = f + 1
    · have q0 : s_fail V (nI k) f = 1 := by rw [s_fail, if_pos q]
      refine no 16 _ ew (by rw [p2, s_failV, if_pos q]) 30 31 rfl hl (by rw [p1, q0]; decide) (by rw [p1, q0]; rfl) (by decide) (by decide) ?_
      unfold fX12_does
      rw [it_f (by decide), it_f (by decide), it_f (by decide), it_t rfl, ix_la, rA_n (by omega) (by decide), hS.1.fl hk, jo1_e, it_t q]; dsimp only; rw [wA_n (by omega) (by decide), it_f (by decide), show sI Y 220 (259 + k) (f + 1) = Y by rw [rowS_s0, upS_self (by rw [hS.1.fl hk]; exact q), rowS_self]]; rfl
    · have q0 : s_fail V (nI k) f = 0 := by rw [s_fail, if_neg q]
      refine yes 16 _ _ (upS (Y.1 220) (259 + k) (f + 1)) hl (p1.trans q0) p2 (hN.failV ok hk f) (hM.of (by rw [s_failV, if_neg q, u2_ne (by omega), u2_ne (by omega)]) (fun t => by rw [s_failV, if_neg q, u2_ne (by omega), u2_ne (by omega)])) (hS.failV ok hk hf q) (upf (by omega) (by omega)) ?_
      unfold fX12_does
      rw [it_f (by decide), it_f (by decide), it_f (by decide), it_t rfl, ix_la, rA_n (by omega) (by decide), hS.1.fl hk, jo1_e, it_f q]; dsimp only; rw [wA_n (by omega) (by decide), it_t (by decide), rowS_s0]; rfl
  · -- mend
    have hl := act 19 _ ew rfl (by decide) (by omega) (fun e => by rcases e with e | e <;> exact absurd e (by decide)) (fun e => absurd e (by decide))
    have p1 : s_perform P V 19 k (X.1 129 i) = s_mend V (nI k) := rfl
    have p2 : s_performV P V 19 k (X.1 129 i) = s_mendV V (nI k) := rfl
    by_cases q : s_failing V (nI k) = 0
    · have q0 : s_mend V (nI k) = 1 := by rw [s_mend, if_pos q]
      refine no 19 _ ew (by rw [p2, s_mendV, if_pos q]) 40 41 rfl hl (by rw [p1, q0]; decide) (by rw [p1, q0]; rfl) (by decide) (by decide) ?_
      unfold fX12_does
      rw [it_f (by decide), it_f (by decide), it_f (by decide), it_f (by decide), it_t rfl, ix_la, rA_n (by omega) (by decide), hS.1.fl hk, jo1_e, it_t q]; dsimp only; rw [wA_n (by omega) (by decide), it_f (by decide), show sI Y 220 (259 + k) 0 = Y by rw [rowS_s0, upS_self (by rw [hS.1.fl hk]; exact q), rowS_self]]; rfl
    · have q0 : s_mend V (nI k) = 0 := by rw [s_mend, if_neg q]
      refine yes 19 _ _ (upS (Y.1 220) (259 + k) 0) hl (p1.trans q0) p2 (hN.mendV ok hk) (hM.of (by rw [s_mendV, if_neg q, u2_ne (by omega), u2_ne (by omega)]) (fun t => by rw [s_mendV, if_neg q, u2_ne (by omega), u2_ne (by omega)])) (hS.mendV ok hk q) (upf (by omega) (by omega)) ?_
      unfold fX12_does
      rw [it_f (by decide), it_f (by decide), it_f (by decide), it_f (by decide), it_t rfl, ix_la, rA_n (by omega) (by decide), hS.1.fl hk, jo1_e, it_f q]; dsimp only; rw [wA_n (by omega) (by decide), it_t (by decide), rowS_s0]; rfl
  · -- ticks
    have t1 : Y.1 220 226 = V 0 1 := hS.1.tick
    have x1 : X.1 54 1 = V 0 1 := by rw [← hV]; rfl
    by_cases q : V 0 1 + nI k ≤ 1000
    · obtain ⟨S', g1, g2, g3, g4⟩ := e_goesOn (X := Y) hL k hk2 (Y.1 220) V hR hN hS
      rw [rowS_self] at g1
      have f := f54_bk (X := X) (W := (s_tk P k V).2)
      have ev : eqV (s_tk P k V).2 (bV (bk X 54 7 (s_tk P k V).2 (bVJ X 54)) 54) := by rw [f.2]; exact eqV.trim
      refine ⟨0, _, S', ?_, ?_, Or.inl rfl, f.1, ev.wfN ok g4, ev.wfM ok (hM.tk k V), ev.RW ok g2, g3⟩
      · unfold fX0_liveLine
        rw [rA_n hi (by decide), ew, it_t rfl, gI_e, rA_n hi (by decide), e2, x1, it_t q, rA_n hi (by decide), e2, ca_s (w := nI (s_tk P k V).1) (X' := bk X 54 7 (s_tk P k V).2 (bVJ X 54))]
        · rfl
        · unfold fX8_passTicks
          have e : (nI k).toNatClampNeg = k := nI_clamp (by omega)
          rw [gd_t (by rw [e, hP, hV]; exact ⟨rfl, wfP_of hL, okS_of hL hN, by omega⟩), e, hP, hV]
      · unfold fX12_does
        rw [it_f (by decide), it_f (by decide), it_f (by decide), it_f (by decide), it_f (by decide), rA_l (by decide) (by decide), t1, jo1_e, it_t q]; dsimp only; rw [it_t rfl, ca_s g1, it_t (by decide)]; rfl
    · refine ⟨51, X, Y.1 220, ?_, ?_, Or.inr ⟨by decide, by decide, rfl⟩, f54.refl X, by rw [hV]; exact hN, by rw [hV]; exact hM, by rw [hV]; exact hS, fun _ _ => rfl⟩
      · unfold fX0_liveLine
        rw [rA_n hi (by decide), ew, it_t rfl, gI_e, rA_n hi (by decide), e2, x1, it_f q]; rfl
      · unfold fX12_does
        rw [it_f (by decide), it_f (by decide), it_f (by decide), it_f (by decide), it_f (by decide), rA_l (by decide) (by decide), t1, jo1_e, it_f q]; dsimp only; rw [it_f (by decide), it_f (by decide), self]; rfl
end BN
