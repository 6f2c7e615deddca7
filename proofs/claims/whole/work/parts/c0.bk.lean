/-! book -/
section BB
variable {X Y X1 Y1 X0 Y0 : X_} {n p : Nat}
def kJF (a1 x4 : Int32) : RM Int32 := (rA 220 469 226 fun v7 => (wA 233 4 2 v7 (ca fX12_busy fun v8 => (wA 233 4 3 v8 (pI 218 40 1 (it (a1 = 1) (rA 233 4 1 fun v9 => (it (v9 ≤ 0) (it (a1 = 0) (ca fX12_brings fun _ => (re x4)) (re x4)) (ca fX12_stores fun _ => (lz1 (fun L240 x10 => (it (62 ≤ x10) (it (a1 = 0) (ca fX12_brings fun _ => (re x4)) (re x4)) (gI 218 23 fun v11 => (rA 226 62 x10 fun v12 => (wA 225 496 ((62 * (v11 - 1)) + x10) v12 (L240 (x10 + 1))))))) FU 0)))) (it (a1 = 0) (ca fX12_brings fun _ => (re x4)) (re x4))))))))
def kJT (a1 : Int32) : RM Int32 := (ca fX12_tries fun _ => (lz1 (fun L89 x3 => (it (4 ≤ x3) (kJR (kJF a1) FU (-1) 0) (wA 233 4 x3 0 (L89 (x3 + 1))))) FU 0))
theorem book_def (a : Int32) : fX12_book a = (pI 218 0 0 (ca (fX12_isIn a 0 1) fun v1 => (it (v1 = 0) (re (-1000)) (ca (fX12_taken 400) fun _ => (pI 218 15 0 (pI 218 38 0 (ca fX12_next fun _ => kBR (kJT a) FU))))))) := rfl
theorem lines_def : fX0_readLines = (ca (fX10_begin 400) fun _ => (pI 126 3 0 (ca fX10_next fun _ => kBC FU))) := rfl
theorem bk_start (hX : Inv X) (hM : sameM X Y) : ∃ XD YD n p, (∀ E : RM Int32, (ca (fX10_begin 400) fun _ => (pI 126 3 0 (ca fX10_next fun _ => E))) X = E XD) ∧ (∀ F : RM Int32, (ca (fX12_taken 400) fun _ => (pI 218 15 0 (pI 218 38 0 (ca fX12_next fun _ => F)))) (sI Y 218 0 0) = F YD) ∧ BL X (sI (sI Y 218 0 0) 218 2 0) n p (bP X 4) 0 (nI 0) (nI 0) XD YD ∧ TK XD YD := by
  have b0 : fX10_begin 400 X = some ((), bk X 1 3 (t_begin (bT X) 400) (bTJ X)) := rfl
  generalize hA : bk X 1 3 (t_begin (bT X) 400) (bTJ X) = XA at b0
  have a1 : ∀ k, XA.1 1 k = t_begin (bT X) 400 0 k := fun k => by rw [← hA]; exact congrFun (bk_in0 (by decide)) k
  have a2 : XA.1 2 = X.1 2 := by
    rw [← hA]
    refine (bk_in (b := 1) (j := 1) (by decide)).trans ?_
    funext k
    simp [t_begin, u2]; rfl
  have a3 : XA.1 3 = X.1 3 := by
    rw [← hA]
    refine (bk_in (b := 1) (j := 2) (by decide)).trans ?_
    funext k
    simp [t_begin, u2]; rfl
  have aJ : XA.2 = X.2 := by rw [← hA]; exact bk_2
  have ao : ∀ a, ¬ (1 ≤ a ∧ a < 4) → XA.1 a = X.1 a := fun a h => by rw [← hA]; exact bk_row (by omega)
  generalize hXC : sI XA 126 3 0 = XC
  generalize hYC : sI (sI (sI (sI (sI (sI (sI Y 218 0 0) 218 3 (Y.1 218 2)) 218 2 0) 218 4 0) 218 5 400) 218 15 0) 218 38 0 = YC
  have yf : ∀ k, ¬ k = 0 → ¬ k = 2 → ¬ k = 3 → ¬ k = 4 → ¬ k = 5 → ¬ k = 15 → ¬ k = 38 → YC.1 218 k = Y.1 218 k := fun k h0 h2 h3 h4 h5 h15 h38 => by
    rw [← hYC, sI_ne (by omega), sI_ne (by omega), sI_ne (by omega), sI_ne (by omega), sI_ne (by omega), sI_ne (by omega), sI_ne (by omega)]
  have yr : ∀ a, ¬ a = 218 → YC.1 a = Y.1 a := fun a h => by rw [← hYC, sI_row h, sI_row h, sI_row h, sI_row h, sI_row h, sI_row h, sI_row h]
  have yJ : YC.2 = Y.2 := by rw [← hYC]; rfl
  have xr : ∀ a, ¬ a = 126 → XC.1 a = XA.1 a := fun a h => by rw [← hXC, sI_row h]
  have xJ : XC.2 = X.2 := by rw [← hXC]; exact aJ
  have tb1 : ∀ k, XC.1 1 k = t_begin (bT X) 400 0 k := fun k => by rw [xr 1 (by decide)]; exact a1 k
  obtain ⟨n, hTB⟩ := taken_TB (m := 400) (Xa := XC) (Ya := YC) hX hM (by decide) (fun k h2 h3 h9 h10 => by
    rw [tb1]
    unfold t_begin
    rw [u2_ne (by omega), u2_ne (by omega), u2_ne (by omega), u2_ne (by omega)]; rfl) (by
    rw [tb1]
    unfold t_begin
    rw [u2_ne (by omega), u2_ne (by omega), u2_ne (by omega), u2_eq]; rfl) (by
    rw [tb1]
    unfold t_begin
    rw [u2_ne (by omega), u2_ne (by omega), u2_eq]) (by rw [xr 2 (by decide), a2]) (by rw [show XC.2.1 = X.2.1 by rw [xJ]]) (by
    rw [← hYC, sI_ne (by decide), sI_ne (by decide), sI_ne (by decide), sI_ne (by decide), sI_ne (by decide), sI_eq]) (by
    rw [← hYC, sI_ne (by decide), sI_ne (by decide), sI_ne (by decide), sI_eq]) (by
    rw [← hYC, sI_ne (by decide), sI_ne (by decide), sI_eq]; rfl) (by rw [yr 219 (by decide)]) (by rw [show YC.2.1 = Y.2.1 by rw [yJ]])
  have hBS : BS X (sI (sI Y 218 0 0) 218 2 0) n 0 (XC.1 127) (XC.1 128) (XC.1 129) (YC.1 222) 0 0 XC YC := by
    refine ⟨⟨hTB, ?_, ?_⟩, ⟨fun a h1 h2 => ?_, fun k hk => ?_, fun a h1 => ?_, ?_⟩, ⟨fun a h1 h2 => ?_, fun k hk => ?_, fun a h1 => ?_, ?_⟩, ⟨rfl, rfl, rfl⟩, rfl, ?_, ?_⟩
    · rw [tb1]
      unfold t_begin
      rw [u2_ne (by omega), u2_eq]
    · rw [← hYC, sI_ne (by decide), sI_eq]
    · rw [xr a (by omega)]
      by_cases c2 : a = 2
      · subst c2; exact a2
      · by_cases c3 : a = 3
        · subst c3; exact a3
        · exact ao a (by omega)
    · rw [← hXC, sI_ne (by omega), ao 126 (by omega)]
    · rw [show XC.2.1 = X.2.1 by rw [xJ]]
    · rw [xJ]
    · rw [yr a h1, sI_row h1, sI_row h1]
    · by_cases k0 : k = 0
      · subst k0
        rw [← hYC, sI_ne (by decide), sI_ne (by decide), sI_ne (by decide), sI_ne (by decide), sI_ne (by decide), sI_ne (by decide), sI_eq, sI_ne (by decide), sI_eq]
      · by_cases k2 : k = 2
        · subst k2
          rw [← hYC, sI_ne (by decide), sI_ne (by decide), sI_ne (by decide), sI_ne (by decide), sI_eq, sI_eq]
        · rw [yf k k0 k2 (by omega) (by omega) (by omega) (by omega) (by omega), sI_ne (by omega), sI_ne (by omega)]
    · rw [show YC.2.1 = Y.2.1 by rw [yJ]]; rfl
    · rw [yJ]; rfl
    · rw [← hXC, sI_eq]
    · rw [← hYC, sI_eq]
  obtain ⟨XD, YD, p, n1, n2, hD, K, -, -, -, -⟩ := hBS.next
  refine ⟨XD, YD, n, p, fun E => ?_, fun F => ?_, ⟨_, _, _, _, hD, fun i hi => absurd hi (Nat.not_lt_zero i)⟩, K⟩
  · rw [ca_s b0, pI_e, hXC, ca_s n1]
  · have tk : fX12_taken 400 (sI Y 218 0 0) = some ((), sI (sI (sI (sI (sI Y 218 0 0) 218 3 (Y.1 218 2)) 218 2 0) 218 4 0) 218 5 400) := by
      unfold fX12_taken
      rw [gI_e, sI_ne (by decide)]; rfl
    rw [ca_s tk, pI_e, pI_e, hYC, ca_s n2]
theorem e_zero4 {K : RM Int32} : (lz1 (fun L89 x3 => (it (4 ≤ x3) K (wA 233 4 x3 0 (L89 (x3 + 1))))) FU 0) Y = K (setR Y 233 (fun k => if k < 4 then 0 else Y.1 233 k)) := by
  have z0 : (fun i => setR Y 233 (fun k => if k < i then 0 else Y.1 233 k)) 0 = Y := by
    refine setR_self ?_
    funext k
    exact (if_neg (Nat.not_lt_zero k)).symm
  conv => lhs; rw [← z0]
  refine lz1_X (n := 4) (fun i => setR Y 233 (fun k => if k < i then 0 else Y.1 233 k)) (by decide) (fun i L hi => ?_) (fun L => ?_)
  · rw [it_f (nL_ge hi (by decide)), wA_n hi (by decide), setR_s, nI_1]
    congr 2
    funext k
    by_cases e : k = i
    · subst e; rw [upS_eq, if_pos (by omega)]
    · rw [upS_ne e]
      exact if_iff ⟨fun z => by omega, fun z => by omega⟩
  · rw [it_t (nL_le (by decide))]
theorem cpN_cp {d m : Nat} {g g' f : Nat → Int32} : cpN d m g (cpN d m g' f) = cpN d m g f := by
  funext j
  unfold cpN
  by_cases c : d ≤ j ∧ j < d + m
  · rw [if_pos c, if_pos c]
  · rw [if_neg c, if_neg c, if_neg c]
theorem cpN_congr {d m : Nat} {g g' f : Nat → Int32} (h : ∀ i, i < m → g i = g' i) : cpN d m g f = cpN d m g' f := by
  funext j
  unfold cpN
  by_cases c : d ≤ j ∧ j < d + m
  · rw [if_pos c, if_pos c, h _ (by omega)]
  · rw [if_neg c, if_neg c]
theorem I_b.fs {Z : X_} (h : I_b X) (h1 : ∀ k, 4 ≤ k → k ≤ 8 → Z.1 126 k = X.1 126 k) (h2 : Z.1 218 40 = X.1 218 40) (h3 : Z.1 233 = X.1 233) : I_b Z := by
  unfold I_b
  rw [h1 4 (by decide) (by decide), h1 5 (by decide) (by decide), h1 6 (by decide) (by decide), h1 7 (by decide) (by decide), h1 8 (by decide) (by decide), h2, h3]
  exact h
theorem book_rel {a : Int32} (ha : a = 0 ∨ a = 1) (X Y : X_) (hX : Inv X) (hM : sameM X Y) : ∃ v X1 Y1, fX11_book a X = some (v, X1) ∧ fX12_book a Y = some (v, Y1) ∧ sameM X X1 ∧ sameK Y Y1 ∧ Inv (mx X1 Y1) := by
  have w := hX.w
  have ok := w.ok
  obtain ⟨XD, YD, n, p, s1, s2, hBL, K⟩ := bk_start hX hM
  have y220 : (sI (sI Y 218 0 0) 218 2 0).1 220 = X.1 220 := by rw [sI_row (by decide), sI_row (by decide)]; exact (hM 220 (by decide)).1
  have hW : Wd (bP X 4) (bPJ X 4) (bV X 47) (bQ X 130) ((sI (sI Y 218 0 0) 218 2 0).1 220) ((sI (sI Y 218 0 0) 218 2 0).2.1 223) := by
    rw [y220, show (sI (sI Y 218 0 0) 218 2 0).2.1 223 = X.2.1 223 from (hM 223 (by decide)).2]
    exact w
  have n14 : n ≤ 1460 := by
    obtain ⟨_, _, _, _, h0, -⟩ := hBL
    exact h0.b.1
  have z := r_bkLines hW (kJT a) n FU FU XD YD p 0 hBL K (by decide) (by omega) (by rw [FU_eq]; omega) (by rw [FU_eq]; omega)
  have p1 : fX0_readLines X = kBC FU XD := by rw [lines_def, s1]
  have p2 : fX12_book a Y = kBR (kJT a) FU YD := by rw [book_def, pI_e, ca_s (isIn_t ha), it_f (by decide), s2]
  have p3 : fX11_book a X = (ca fX0_readLines fun v1 => (gI 1 9 fun v2 => (pI 0 13 v2 (pI 1 1 0 (it (v1 = 0) (gI 1 10 fun v5 => (re ((-2) - v5))) (ca (fX8_copyFrom 54 47) fun _ => (ca fX0_judge fun v3 => (it (a = 1) (gI 126 6 fun v4 => (it (v4 ≤ 0) (re v3) (ca fX3_note fun _ => (ca fX3_keepNoted fun _ => (ca (fX8_copyFrom 47 54) fun _ => (re v3)))))) (re v3))))))))) X := by
    unfold fX11_book
    rw [jo0_e, it_e]
    rcases ha with rfl | rfl
    · rw [if_pos rfl]
    · rw [if_neg (by decide), it_t rfl]
  have yM : ∀ b, 218 ≤ b → ¬ b = 218 → (sI (sI Y 218 0 0) 218 2 0).1 b = X.1 b := fun b h1 h2 => by rw [sI_row h2, sI_row h2]; exact (hM b h1).1
  have yJ : ∀ b, 218 ≤ b → (sI (sI Y 218 0 0) 218 2 0).2.1 b = X.2.1 b := fun b h1 => (hM b h1).2
  have yF : ∀ k, ¬ k = 0 → ¬ k = 2 → (sI (sI Y 218 0 0) 218 2 0).1 218 k = X.1 218 k := fun k h0 h2 => by rw [sI_ne (by omega), sI_ne (by omega), (hM 218 (by decide)).1]
  rcases z with ⟨XF, YF, z1, z2, hF, hG, e9, e10⟩ | ⟨XE, YE, p', l, z1, z2, hE, l40⟩
  · refine ⟨(-2) - YF.1 218 16, sI (sI XF 0 13 (XF.1 1 9)) 1 1 0, YF, ?_, p2.trans z2, fun b hb => ?_, ⟨fun b hb => ?_, ?_⟩, ?_⟩
    · rw [p3, ca_s (p1.trans z1), gI_e, pI_e, pI_e, it_t rfl, gI_e, sI_ne (by decide), sI_ne (by decide), e10]; rfl
    · rw [sI_row (by omega), sI_row (by omega)]
      exact ⟨hF.1 b (by omega) (by omega), hF.2.2.1 b (by omega)⟩
    · exact ⟨by rw [hG.1 b (by omega) (by omega), sI_row (by omega), sI_row (by omega)], by rw [hG.2.2.1 b (by omega)]; rfl⟩
    · exact hG.2.2.2
    · generalize hZ : mx (sI (sI XF 0 13 (XF.1 1 9)) 1 1 0) YF = Z
      have R : ∀ b, ¬ b = 0 → ¬ b = 1 → ¬ (126 ≤ b ∧ b < 130) → ¬ b = 218 → ¬ b = 222 → Z.1 b = X.1 b := fun b h0 h1 h2 h3 h4 => by
        rw [← hZ]
        by_cases c : b < 218
        · rw [mx_c c, sI_row h1, sI_row h0]; exact hF.1 b h1 h2
        · rw [mx_m (by omega), hG.1 b h3 h4, yM b (by omega) h3]
      have F : ∀ k, 20 < k → ¬ k = 38 → Z.1 218 k = X.1 218 k := fun k hk h38 => by rw [← hZ, mx_m (by decide), hG.2.1 k (Or.inr ⟨hk, h38⟩), yF k (by omega) (by omega)]
      have J : ∀ b, ¬ b = 1 → ¬ b = 218 → Z.2.1 b = X.2.1 b := fun b h1 h3 => by
        rw [← hZ]
        by_cases c : b < 218
        · rw [mx_cJ c]; exact hF.2.2.1 b h1
        · rw [mx_mJ (by omega), hG.2.2.1 b h3, yJ b (by omega)]
      have Gh : Z.2.2 = X.2.2 := by rw [← hZ]; exact hF.2.2.2
      have z11 : Z.1 1 1 = 0 := by rw [← hZ, mx_c (by decide), sI_eq]
      have z2' : Z.1 218 2 = 0 := by rw [← hZ, mx_m (by decide), hG.2.1 2 (by decide), sI_eq]
      have z013 : Z.1 0 13 = Z.1 218 15 := by rw [← hZ, mx_c (by decide), mx_m (by decide), sI_row (by decide), sI_eq]; exact e9
      have z014 : Z.1 0 14 = X.1 0 14 := by rw [← hZ, mx_c (by decide), sI_row (by decide), sI_ne (by decide), hF.1 0 (by decide) (by omega)]
      have z126 : ∀ k, ¬ k = 3 → Z.1 126 k = X.1 126 k := fun k hk => by rw [← hZ, mx_c (by decide), sI_row (by decide), sI_row (by decide), hF.2.1 k hk]
      refine ⟨?_, ?_, ?_, ?_, ?_, ?_, ?_, ?_, ?_, ?_⟩
      · exact ⟨0, by decide, z11, z2', fun k hk => absurd hk (Nat.not_lt_zero k)⟩
      · exact hX.k.of (by exact J _ (by omega) (by omega)) (by exact J _ (by omega) (by omega))
      · exact hX.w.of (fun a ha => by exact R _ (by omega) (by omega) (by omega) (by omega) (by omega)) (fun a ha => by exact J _ (by omega) (by omega))
      · exact hX.h.of (fun a ha => by exact R _ (by omega) (by omega) (by omega) (by omega) (by omega)) (by exact F _ (by decide) (by decide)) Gh
      · exact hX.i.of (fun a ha => by exact R _ (by omega) (by omega) (by omega) (by omega) (by omega)) (fun a ha => by exact J _ (by omega) (by omega))
      · exact hX.b.fs (fun k h4 _ => z126 k (by omega)) (F _ (by decide) (by decide)) (R _ (by omega) (by omega) (by omega) (by omega) (by omega))
      · exact hX.c.of (fun a ha => by exact R _ (by omega) (by omega) (by omega) (by omega) (by omega)) (by exact F _ (by decide) (by decide)) (by exact F _ (by decide) (by decide))
      · exact hX.f.of (fun a ha => by exact R _ (by omega) (by omega) (by omega) (by omega) (by omega)) (by exact F _ (by decide) (by decide)) (by exact F _ (by decide) (by decide))
      · exact hX.g.of (fun a ha => by exact R _ (by omega) (by omega) (by omega) (by omega) (by omega)) (by exact F _ (by decide) (by decide))
      · exact ⟨z013, by rw [z014, F 28 (by decide) (by decide), F 27 (by decide) (by decide)]; exact hX.o.2⟩
  · obtain ⟨W1, W2, W3, T, ⟨⟨hTB, f9, f15⟩, hF, hG, ⟨w1, w2, w3⟩, w4, lx, ly⟩, hBR⟩ := hE
    generalize hXH : sI (sI XE 0 13 0) 1 1 0 = XH
    have hr : ∀ b, ¬ b = 0 → ¬ b = 1 → XH.1 b = XE.1 b := fun b h0 h1 => by rw [← hXH, sI_row h1, sI_row h0]
    have hJ : XH.2 = XE.2 := by rw [← hXH]; rfl
    have eX : ∀ b, ¬ b = 1 → ¬ (126 ≤ b ∧ b < 130) → XE.1 b = X.1 b := hF.1
    have eP : ∀ Z : X_, (∀ b, 4 ≤ b → b < 25 → Z.1 b = X.1 b) → bP Z 4 = bP X 4 := fun Z h => bB_same (fun b h1 h2 => h b h1 (by omega))
    have eV : ∀ Z : X_, (∀ b, 47 ≤ b → b < 54 → Z.1 b = X.1 b) → bV Z 47 = bV X 47 := fun Z h => bB_same (fun b h1 h2 => h b h1 (by omega))
    have cp : fX8_copyFrom 54 47 XH = some ((), bk XH 54 7 (s_copy (bV XH 47) (bV XH 54)) (bVJ XH 54)) := gd_t (Or.inl (by decide))
    generalize hXI : bk XH 54 7 (s_copy (bV XH 47) (bV XH 54)) (bVJ XH 54) = XI at cp
    have ir : ∀ b, ¬ (54 ≤ b ∧ b < 61) → XI.1 b = XH.1 b := fun b h => by rw [← hXI]; exact bk_row h
    have iJ : XI.2 = XH.2 := by rw [← hXI]; exact bk_2
    have hV47 : bV XH 47 = bV X 47 := eV XH (fun b h1 h2 => by rw [hr b (by omega) (by omega), eX b (by omega) (by omega)])
    have iV : eqV (bV X 47) (bV XI 54) := by
      rw [← hXI, show bV (bk XH 54 7 (s_copy (bV XH 47) (bV XH 54)) (bVJ XH 54)) 54 = trim 7 (s_copy (bV XH 47) (bV XH 54)) from bB_bk, hV47]
      exact (eqV.copy _ _).trans eqV.trim
    generalize hXB : sI (sI XI 126 5 0) 126 6 0 = XB
    have br : ∀ b, ¬ b = 126 → XB.1 b = XI.1 b := fun b h => by rw [← hXB, sI_row h, sI_row h]
    have bJ : XB.2 = XE.2 := by rw [← hXB]; exact iJ.trans hJ
    have bX : ∀ b, ¬ b = 0 → ¬ b = 1 → ¬ (54 ≤ b ∧ b < 61) → ¬ (126 ≤ b ∧ b < 130) → XB.1 b = X.1 b := fun b h0 h1 h2 h3 => by rw [br b (by omega), ir b h2, hr b h0 h1, eX b h1 h3]
    have bV54 : bV XB 54 = bV XI 54 := bB_same (fun b h1 h2 => br b (by omega))
    have bP4 : bP XB 4 = bP X 4 := eP XB (fun b h1 h2 => bX b (by omega) (by omega) (by omega) (by omega))
    have b126 : ∀ k, ¬ k = 5 → ¬ k = 6 → XB.1 126 k = XE.1 126 k := fun k h5 h6 => by rw [← hXB, sI_ne (by omega), sI_ne (by omega), ir 126 (by omega), hr 126 (by decide) (by decide)]
    -- the reference keeps what is so, and begins
    generalize hYT : setR YE 226 (cpN 0 62 (fun i => YE.1 220 (226 + i)) (YE.1 226)) = YT
    have tr : fX12_tries YE = some ((), YT) := by rw [← hYT]; exact e_tries
    generalize hYB : setR YT 233 (fun k => if k < 4 then 0 else YT.1 233 k) = YB
    have tR : ∀ b, ¬ b = 226 → ¬ b = 233 → YB.1 b = YE.1 b := fun b h1 h2 => by rw [← hYB, setR_ne h2, ← hYT, setR_ne h1]
    have t226 : YB.1 226 = cpN 0 62 (fun i => YE.1 220 (226 + i)) (YE.1 226) := by rw [← hYB, setR_ne (by decide), ← hYT, setR_eq]
    have t233 : ∀ k, k < 4 → YB.1 233 k = 0 := fun k hk => by rw [← hYB, setR_eq]; exact if_pos hk
    have tJ : YB.2 = YE.2 := by rw [← hYB, ← hYT]; rfl
    have e220 : YE.1 220 = X.1 220 := by rw [hG.1 220 (by decide) (by decide), y220]
    have ref0 : fX12_book a Y = kJR (kJF a) FU (-1) 0 YB := by rw [p2, z2, kJT, ca_s tr, e_zero4, hYB]
    have hR : RLa (bP X 4) (YB.1 220) := by rw [tR 220 (by decide) (by decide), e220]; exact w.r
    have JI0 : JI XB YB (bP X 4) 0 XB YB := ⟨⟨fun _ _ _ => rfl, rfl, fun _ _ _ => rfl⟩, ⟨fun _ _ _ => rfl, rfl⟩, ⟨fun _ _ => rfl, fun _ => rfl⟩, by rw [bV54]; exact iV.wfN ok w.v, by rw [bV54]; exact iV.wfM ok w.m, by rw [bV54, tR 220 (by decide) (by decide), e220]; exact iV.RW ok w.s⟩
    obtain ⟨v, x4, X2, Y2, g, j1, j2, ⟨⟨q1, q2, q3⟩, ⟨r1, r2⟩, ⟨sf, sz⟩, wN, wM, wR⟩, v5, v0, g6, g1, hx4, gl⟩ := r_judge (E := kJF a) (l := l) w.l bP4 hR l40 (by rw [b126 3 (by decide) (by decide)]; exact lx) (by rw [tR 218 (by decide) (by decide)]; exact ly) (by rw [br 127 (by decide), ir 127 (by omega), hr 127 (by decide) (by decide), w1, br 128 (by decide), ir 128 (by omega), hr 128 (by decide) (by decide), w2, br 129 (by decide), ir 129 (by omega), hr 129 (by decide) (by decide), w3, tR 222 (by decide) (by decide), w4]; exact hBR) l FU FU 0 XB YB JI0 (by rw [← hXB, sI_ne (by decide), sI_eq]) (by rw [← hXB, sI_eq]; rfl) (t233 0 (by decide)) (t233 1 (by decide)) (by omega) (by rw [FU_eq]; omega) (by rw [FU_eq]; omega)
    -- the component's end
    have P2 : bP X2 4 = bP X 4 := eP X2 (fun b h1 h2 => by rw [q1 b (by omega) (by omega), bX b (by omega) (by omega) (by omega) (by omega)])
    generalize hnf : s_notFree (bP X 4) (bV X2 54) = nf
    generalize hX3 : sI (sI (sI X2 126 4 1) 126 7 (X2.1 54 1)) 126 8 nf = X3
    have x4v : x4 = -1 ∨ x4 = nI g := by
      rcases hx4 with h | h
      · exact Or.inl h.2
      · exact Or.inr h.2
    have cj : fX0_judge XI = some (x4, X3) := by
      rw [judge_def, pI_e, pI_e, hXB, j1]
      unfold kJE
      have nfr : fX8_notFree 54 (sI (sI X2 126 4 1) 126 7 (X2.1 54 1)) = some (nf, sI (sI X2 126 4 1) 126 7 (X2.1 54 1)) := by
        have e1 : bP (sI (sI X2 126 4 1) 126 7 (X2.1 54 1)) 4 = bP X 4 := by
          rw [← P2]
          exact bB_same (fun b h1 h2 => by rw [sI_row (by omega), sI_row (by omega)])
        have e2 : bV (sI (sI X2 126 4 1) 126 7 (X2.1 54 1)) 54 = bV X2 54 := bB_same (fun b h1 h2 => by rw [sI_row (by omega), sI_row (by omega)])
        unfold fX8_notFree
        rw [gd_t (by rw [e1]; exact ok), e1, e2, hnf]
      rw [pI_e, gI_e, sI_row (by decide), pI_e, ca_s nfr, pI_e, hX3, gI_e, show X3.1 126 5 = v by rw [← hX3, sI_ne (by decide), sI_ne (by decide), sI_ne (by decide)]; exact v5, it_e]
      rcases hx4 with ⟨e1, e2⟩ | ⟨e1, e2⟩
      · rw [if_pos e1, e2]; rfl
      · rw [if_neg e1, gI_e, show X3.1 126 6 = nI g by rw [← hX3, sI_ne (by decide), sI_ne (by decide), sI_ne (by decide)]; exact g6, e2]; rfl
    have r3 : ∀ b, ¬ b = 126 → X3.1 b = X2.1 b := fun b h => by rw [← hX3, sI_row h, sI_row h, sI_row h]
    have J3 : X3.2 = XE.2 := by
      rw [← hX3]
      show X2.2 = _
      rw [q2, bJ]
    have c3 : ∀ b, ¬ b = 0 → ¬ b = 1 → ¬ (54 ≤ b ∧ b < 61) → ¬ (126 ≤ b ∧ b < 130) → X3.1 b = X.1 b := fun b h0 h1 h2 h3 => by rw [r3 b (by omega), q1 b h2 (by omega), bX b h0 h1 h2 h3]
    have c0 : ∀ k, X3.1 0 k = if k = 13 then 0 else X.1 0 k := fun k => by
      rw [r3 0 (by decide), q1 0 (by omega) (by decide), br 0 (by decide), ir 0 (by omega), ← hXH, sI_row (by decide)]
      by_cases c : k = 13
      · subst c; rw [sI_eq, if_pos rfl]
      · rw [sI_ne (by omega), if_neg c, eX 0 (by decide) (by omega)]
    have c11 : X3.1 1 1 = 0 := by rw [r3 1 (by decide), q1 1 (by omega) (by decide), br 1 (by decide), ir 1 (by omega), ← hXH, sI_eq]
    have g3 : X3.1 126 6 = nI g := by rw [← hX3, sI_ne (by decide), sI_ne (by decide), sI_ne (by decide)]; exact g6
    have d4 : X3.1 126 4 = 1 := by rw [← hX3, sI_ne (by decide), sI_ne (by decide), sI_eq]
    have d5 : X3.1 126 5 = v := by rw [← hX3, sI_ne (by decide), sI_ne (by decide), sI_ne (by decide)]; exact v5
    have d7 : X3.1 126 7 = X2.1 54 1 := by rw [← hX3, sI_ne (by decide), sI_eq]
    have d8 : X3.1 126 8 = nf := by rw [← hX3, sI_eq]
    -- the reference's end
    generalize hY3 : sI (sI (sI Y2 233 2 (X2.1 54 1)) 233 3 nf) 218 40 1 = Y3
    have y3r : ∀ b, ¬ b = 218 → ¬ b = 233 → Y3.1 b = Y2.1 b := fun b h1 h2 => by rw [← hY3, sI_row h1, sI_row h2, sI_row h2]
    have y3J : Y3.2 = YE.2 := by
      rw [← hY3]
      show Y2.2 = _
      rw [r2, tJ]
    have y3c : ∀ b, ¬ b = 218 → ¬ b = 220 → ¬ b = 222 → ¬ b = 226 → ¬ b = 233 → Y3.1 b = (sI (sI Y 218 0 0) 218 2 0).1 b := fun b h1 h2 h3 h4 h5 => by rw [y3r b h1 h5, r1 b h2 h5, tR b h4 h5, hG.1 b h1 h3]
    have y3f : ∀ k, k < 3 ∨ (20 < k ∧ ¬ k = 38 ∧ ¬ k = 40) → Y3.1 218 k = (sI (sI Y 218 0 0) 218 2 0).1 218 k := fun k hk => by rw [← hY3, sI_ne (by omega), sI_row (by decide), sI_row (by decide), r1 218 (by decide) (by decide), tR 218 (by decide) (by decide), hG.2.1 k (by omega)]
    have y340 : Y3.1 218 40 = 1 := by rw [← hY3, sI_eq]
    have y315 : Y3.1 218 15 = 0 := by rw [← hY3, sI_ne (by decide), sI_row (by decide), sI_row (by decide), r1 218 (by decide) (by decide), tR 218 (by decide) (by decide), f15]
    have y30 : Y3.1 233 0 = v := by rw [← hY3, sI_row (by decide), sI_ne (by decide), sI_ne (by decide)]; exact v0
    have y31 : Y3.1 233 1 = nI g := by rw [← hY3, sI_row (by decide), sI_ne (by decide), sI_ne (by decide)]; exact g1
    have y32 : Y3.1 233 2 = X2.1 54 1 := by rw [← hY3, sI_row (by decide), sI_ne (by decide), sI_eq]
    have y33 : Y3.1 233 3 = nf := by rw [← hY3, sI_row (by decide), sI_eq]
    have y3S : Y3.1 220 = Y2.1 220 := y3r 220 (by decide) (by decide)
    have y226 : Y3.1 226 = cpN 0 62 (fun i => X.1 220 (226 + i)) (YE.1 226) := by rw [y3r 226 (by decide) (by decide), r1 226 (by decide) (by decide), t226, e220]
    have sB : fr (X.1 220) (Y2.1 220) := fun k hk => by rw [sf k hk, tR 220 (by decide) (by decide), e220]
    have s0 : g = 0 → Y2.1 220 = X.1 220 := fun z => by rw [sz z, tR 220 (by decide) (by decide), e220]
    have refE : fX12_book a Y = (it (a = 1) (rA 233 4 1 fun v9 => (it (v9 ≤ 0) (it (a = 0) (ca fX12_brings fun _ => (re x4)) (re x4)) (ca fX12_stores fun _ => (lz1 (fun L240 x10 => (it (62 ≤ x10) (it (a = 0) (ca fX12_brings fun _ => (re x4)) (re x4)) (gI 218 23 fun v11 => (rA 226 62 x10 fun v12 => (wA 225 496 ((62 * (v11 - 1)) + x10) v12 (L240 (x10 + 1))))))) FU 0)))) (it (a = 0) (ca fX12_brings fun _ => (re x4)) (re x4))) Y3 := by
      rw [ref0, show (0 : Int32) = nI 0 from rfl, j2, kJF]
      have tk : Y2.1 220 226 = X2.1 54 1 := wR.1.tick
      have L2 : RLa (bP X 4) ((sI Y2 233 2 (X2.1 54 1)).1 220) := by rw [sI_row (by decide)]; exact w.r.lt ok w.l.r (fun k hk => sB k (Or.inl hk))
      have S2 : RS (bP X 4) (bV X2 54) ((sI Y2 233 2 (X2.1 54 1)).1 220) := by rw [sI_row (by decide)]; exact wR.1
      rw [rA_l (by decide) (by decide), tk, wA_l (by decide) (by decide), ca_s (e_busy L2 ok S2), hnf, wA_l (by decide) (by decide), pI_e, hY3]
      rfl
    -- what both have told
    have told : ∀ Z : X_, Z.1 126 = X3.1 126 → Z.1 218 40 = 1 → Z.1 233 = Y3.1 233 → I_b Z := fun Z h1 h2 h3 => by
      unfold I_b
      rw [h1, h2, h3, d4, d5, g3, d7, d8, y30, y31, y32, y33]
      exact ⟨rfl, Or.inr ⟨rfl, rfl, rfl, rfl, rfl⟩⟩
    have sM3 : sameM X X3 := fun b hb => ⟨c3 b (by omega) (by omega) (by omega) (by omega), by rw [show X3.2.1 = XE.2.1 by rw [J3], hF.2.2.1 b (by omega)]⟩
    -- nothing lives on
    have quiet : ∀ Yf : X_, (∀ b, ¬ b = 220 → Yf.1 b = Y3.1 b) → Yf.1 220 = X.1 220 → Yf.2 = Y3.2 → sameK Y Yf ∧ Inv (mx X3 Yf) := fun Yf h1 h2 h3 => by
      refine ⟨⟨fun b hb => ⟨?_, ?_⟩, ?_⟩, ?_⟩
      · rw [h1 b (by omega), y3c b (by omega) (by omega) (by omega) (by omega) (by omega), sI_row (by omega), sI_row (by omega)]
      · rw [show Yf.2.1 = YE.2.1 by rw [h3, y3J], hG.2.2.1 b (by omega)]; rfl
      · rw [h3, y3J, hG.2.2.2]; rfl
      · generalize hZ : mx X3 Yf = Z
        have R : ∀ b, ¬ b = 0 → ¬ b = 1 → ¬ (54 ≤ b ∧ b < 61) → ¬ (126 ≤ b ∧ b < 130) → ¬ b = 218 → ¬ b = 222 → ¬ b = 226 → ¬ b = 233 → Z.1 b = X.1 b := fun b k0 k1 k2 k3 k4 k5 k6 k7 => by
          rw [← hZ]
          by_cases c : b < 218
          · rw [mx_c c, c3 b k0 k1 k2 k3]
          · rw [mx_m (by omega)]
            by_cases c2 : b = 220
            · subst c2; exact h2
            · rw [h1 b c2, y3c b k4 c2 k5 k6 k7, yM b (by omega) k4]
        have F : ∀ k, 20 < k → ¬ k = 38 → ¬ k = 40 → Z.1 218 k = X.1 218 k := fun k hk h38 h40 => by rw [← hZ, mx_m (by decide), h1 218 (by decide), y3f k (Or.inr ⟨hk, h38, h40⟩), yF k (by omega) (by omega)]
        have J : ∀ b, ¬ b = 1 → ¬ b = 218 → Z.2.1 b = X.2.1 b := fun b k1 k3 => by
          rw [← hZ]
          by_cases c : b < 218
          · rw [mx_cJ c, show X3.2.1 = XE.2.1 by rw [J3], hF.2.2.1 b k1]
          · rw [mx_mJ (by omega), show Yf.2.1 = YE.2.1 by rw [h3, y3J], hG.2.2.1 b k3, yJ b (by omega)]
        have Gh : Z.2.2 = X.2.2 := by
          rw [← hZ]
          show X3.2.2 = _
          rw [J3, hF.2.2.2]
        have z11 : Z.1 1 1 = 0 := by rw [← hZ, mx_c (by decide), c11]
        have z2' : Z.1 218 2 = 0 := by rw [← hZ, mx_m (by decide), h1 218 (by decide), y3f 2 (Or.inl (by decide)), sI_eq]
        have z013 : Z.1 0 13 = Z.1 218 15 := by rw [← hZ, mx_c (by decide), mx_m (by decide), h1 218 (by decide), y315, c0, if_pos rfl]
        have z014 : Z.1 0 14 = X.1 0 14 := by rw [← hZ, mx_c (by decide), c0, if_neg (by decide)]
        refine ⟨?_, ?_, ?_, ?_, ?_, ?_, ?_, ?_, ?_, ?_⟩
        · exact ⟨0, by decide, z11, z2', fun k hk => absurd hk (Nat.not_lt_zero k)⟩
        · exact hX.k.of (by exact J _ (by omega) (by omega)) (by exact J _ (by omega) (by omega))
        · exact hX.w.of (fun a ha => by exact R _ (by omega) (by omega) (by omega) (by omega) (by omega) (by omega) (by omega) (by omega)) (fun a ha => by exact J _ (by omega) (by omega))
        · exact hX.h.of (fun a ha => by exact R _ (by omega) (by omega) (by omega) (by omega) (by omega) (by omega) (by omega) (by omega)) (by exact F _ (by decide) (by decide) (by decide)) Gh
        · exact hX.i.of (fun a ha => by exact R _ (by omega) (by omega) (by omega) (by omega) (by omega) (by omega) (by omega) (by omega)) (fun a ha => by exact J _ (by omega) (by omega))
        · exact told Z (by rw [← hZ, mx_c (by decide)]) (by rw [← hZ, mx_m (by decide), h1 218 (by decide), y340]) (by rw [← hZ, mx_m (by decide), h1 233 (by decide)])
        · exact hX.c.of (fun a ha => by exact R _ (by omega) (by omega) (by omega) (by omega) (by omega) (by omega) (by omega) (by omega)) (by exact F _ (by decide) (by decide) (by decide)) (by exact F _ (by decide) (by decide) (by decide))
        · exact hX.f.of (fun a ha => by exact R _ (by omega) (by omega) (by omega) (by omega) (by omega) (by omega) (by omega) (by omega)) (by exact F _ (by decide) (by decide) (by decide)) (by exact F _ (by decide) (by decide) (by decide))
        · exact hX.g.of (fun a ha => by exact R _ (by omega) (by omega) (by omega) (by omega) (by omega) (by omega) (by omega) (by omega)) (by exact F _ (by decide) (by decide) (by decide))
        · exact ⟨z013, by rw [z014, F 28 (by decide) (by decide) (by decide), F 27 (by decide) (by decide) (by decide)]; exact hX.o.2⟩
    have comp0 : fX11_book a X = (it (a = 1) (gI 126 6 fun v4 => (it (v4 ≤ 0) (re x4) (ca fX3_note fun _ => (ca fX3_keepNoted fun _ => (ca (fX8_copyFrom 47 54) fun _ => (re x4)))))) (re x4)) X3 := by
      rw [p3, ca_s (p1.trans z1), gI_e, f9, pI_e, pI_e, hXH, it_f (by decide), ca_s cp, ca_s cj]
    rcases ha with rfl | rfl
    · -- it only tries
      rw [it_f (by decide), it_t rfl, ca_s e_brings] at refE
      rw [it_f (by decide)] at comp0
      have e : cpN 226 62 (Y3.1 226) (Y3.1 220) = X.1 220 := by
        rw [y226, y3S]
        funext k
        unfold cpN
        by_cases c : 226 ≤ k ∧ k < 226 + 62
        · rw [if_pos c, if_pos (by omega)]
          dsimp only
          rw [show 226 + (k - 226 - 0) = k by omega]
        · rw [if_neg c]; exact sB k (by omega)
      rw [e] at refE
      obtain ⟨k1, k2⟩ := quiet (rowS Y3 (X.1 220)) (fun b hb => setR_ne hb) setR_eq rfl
      exact ⟨x4, X3, rowS Y3 (X.1 220), comp0, refE, sM3, k1, k2⟩
    · rw [it_t rfl, rA_l (by decide) (by decide), y31] at refE
      rw [it_t rfl, gI_e, g3] at comp0
      by_cases gz : g = 0
      · rw [it_t (show nI g ≤ 0 from nI_le (b := 0) (by omega) (by decide)), it_f (by decide)] at refE
        rw [it_t (show nI g ≤ 0 from nI_le (b := 0) (by omega) (by decide))] at comp0
        obtain ⟨k1, k2⟩ := quiet Y3 (fun _ _ => rfl) (by rw [y3S]; exact s0 gz) rfl
        exact ⟨x4, X3, Y3, comp0, refE, sM3, k1, k2⟩
      · -- it lives on
        have gp : ¬ nI g ≤ 0 := fun z => gz (by have := (nI_leI (b := 0) (by omega) (by decide)).mp z; omega)
        rw [it_f gp] at refE comp0
        obtain ⟨h, H⟩ := hX.hn
        obtain ⟨h8, H1, H2, H3, H4, H5⟩ := H
        have H' : I_hn X h := ⟨h8, H1, H2, H3, H4, H5⟩
        have gh3 : X3.2.2 = X.2.2 := by rw [J3, hF.2.2.2]
        have bvh : ∀ q, q < 9 → bV X3 (63 + 7 * q) = bV X (63 + 7 * q) := fun q hq => bB_same (fun b k1 k2 => c3 b (by omega) (by omega) (by omega) (by omega))
        have P3 : bP X3 4 = bP X 4 := eP X3 (fun b k1 k2 => c3 b (by omega) (by omega) (by omega) (by omega))
        have V3 : bV X3 47 = bV X 47 := eV X3 (fun b k1 k2 => c3 b (by omega) (by omega) (by omega) (by omega))
        have Hn3 : I_hn X3 h := by
          refine ⟨h8, by rw [c3 61 (by decide) (by decide) (by omega) (by omega)]; exact H1, by rw [(sM3 218 (by decide)).1]; exact H2, by rw [gh3]; exact H3, by rw [gh3]; exact H4, fun i hi => ?_⟩
          have := H3 i (by omega)
          rw [gh3, P3, bvh _ this, (sM3 225 (by decide)).1]
          exact H5 i hi
        obtain ⟨X4, n1, n2, n3, ⟨n4, n5, n6⟩, n7⟩ := k_note Hn3
        obtain ⟨X5, k1, k2, k3, k4, k5⟩ := k_keep (X := X4) h8 (by rw [n5]; exact Hn3.2.1) (by rw [n4]; exact Hn3.2.2.2.1)
        have cp2 : fX8_copyFrom 47 54 X5 = some ((), bk X5 47 7 (s_copy (bV X5 54) (bV X5 47)) (bVJ X5 47)) := gd_t (Or.inr (by decide))
        generalize hX6 : bk X5 47 7 (s_copy (bV X5 54) (bV X5 47)) (bVJ X5 47) = X6 at cp2
        have r6 : ∀ b, ¬ (47 ≤ b ∧ b < 54) → X6.1 b = X5.1 b := fun b hb => by rw [← hX6]; exact bk_row hb
        have J6 : X6.2 = X5.2 := by rw [← hX6]; exact bk_2
        have V5 : bV X5 54 = bV X2 54 := bB_same (fun b b1 b2 => by rw [k2 b (by omega), n2 b (by omega), r3 b (by omega)])
        have V6 : eqV (bV X2 54) (bV X6 47) := by
          rw [← hX6, show bV (bk X5 47 7 (s_copy (bV X5 54) (bV X5 47)) (bVJ X5 47)) 47 = trim 7 (s_copy (bV X5 54) (bV X5 47)) from bB_bk, V5]
          exact (eqV.copy _ _).trans eqV.trim
        have c6 : ∀ b, ¬ b = 0 → ¬ b = 1 → ¬ (47 ≤ b ∧ b < 126) → ¬ (126 ≤ b ∧ b < 130) → X6.1 b = X.1 b := fun b b0 b1 b2 b3 => by rw [r6 b (by omega), k2 b (by omega), n2 b (by omega), c3 b b0 b1 (by omega) b3]
        have c63 : ∀ b, ¬ (47 ≤ b ∧ b < 126) → X6.1 b = X3.1 b := fun b b2 => by rw [r6 b (by omega), k2 b (by omega), n2 b (by omega)]
        have JJ6 : X6.2.1 = X3.2.1 := by rw [show X6.2.1 = X5.2.1 by rw [J6], k3, n3]
        have G6 : X6.2.2 = (if h = 8 then rot X.2.2 else X.2.2) := by rw [J6, k5, n4, gh3]
        have c61 : X6.1 61 1 = nI (if h = 8 then 8 else h + 1) := by rw [r6 61 (by omega)]; exact k4
        have compF : fX11_book 1 X = some (x4, X6) := by rw [comp0, ca_s n1, ca_s k1, ca_s cp2]; rfl
        -- the reference
        have h23 : Y3.1 218 23 = nI h := by rw [y3f 23 (Or.inr ⟨by decide, by decide, by decide⟩), yF 23 (by decide) (by decide)]; exact H2
        have st := e_stores (X := Y3) h8 h23
        generalize hY4 : sI (setR Y3 225 (undR h (Y3.1 225) (Y3.1 220))) 218 23 (nI (if h = 8 then 8 else h + 1)) = Y4 at st
        obtain ⟨u, hu, hu1, hu7⟩ : ∃ u, (if h = 8 then 8 else h + 1) = u + 1 ∧ u ≤ 7 ∧ (h = 8 ∧ u = 7 ∨ ¬ h = 8 ∧ u = h) := by
          by_cases c : h = 8
          · exact ⟨7, by rw [if_pos c], by omega, Or.inl ⟨c, rfl⟩⟩
          · exact ⟨h, by rw [if_neg c], by omega, Or.inr ⟨c, rfl⟩⟩
        have y423 : Y4.1 218 23 = nI (u + 1) := by rw [← hY4, sI_eq, hu]
        have y425 : Y4.1 225 = undR h (Y3.1 225) (Y3.1 220) := by rw [← hY4, sI_row (by decide), setR_eq]
        have y4r : ∀ b, ¬ b = 218 → ¬ b = 225 → Y4.1 b = Y3.1 b := fun b b1 b2 => by rw [← hY4, sI_row b1, setR_ne b2]
        have y4f : ∀ k, ¬ k = 23 → Y4.1 218 k = Y3.1 218 k := fun k hk => by rw [← hY4, sI_ne (by omega), setR_ne (by decide)]
        have y4J : Y4.2 = YE.2 := by rw [← hY4]; exact y3J
        have lp : (lz1 (fun L240 x10 => (it (62 ≤ x10) (it ((1 : Int32) = 0) (ca fX12_brings fun _ => (re x4)) (re x4)) (gI 218 23 fun v11 => (rA 226 62 x10 fun v12 => (wA 225 496 ((62 * (v11 - 1)) + x10) v12 (L240 (x10 + 1))))))) FU 0) Y4 = some (x4, setR Y4 225 (cpN (62 * u) 62 (Y4.1 226) (Y4.1 225))) := by
          have z0 : (fun i => setR Y4 225 (cpN (62 * u) i (Y4.1 226) (Y4.1 225))) 0 = Y4 := by
            show setR Y4 225 (cpN _ 0 _ _) = Y4
            rw [cpN_0, setR_self rfl]
          conv => lhs; rw [← z0]
          refine lz1_X (n := 62) (fun i => setR Y4 225 (cpN (62 * u) i (Y4.1 226) (Y4.1 225))) (by decide) (fun i L hi => ?_) (fun L => ?_)
          · rw [it_f (nL_ge hi (by decide)), gI_e, setR_ne (by decide), y423, show nI (u + 1) - 1 = nI u by rw [show nI (u + 1) - 1 = nI (u + 1 - 1) from ix_sub (c := 1) (by omega), Nat.add_sub_cancel], rA_n hi (by decide), setR_ne (by decide), ix_lm, nI_add, wA_n (by omega) (by decide), setR_s, nI_1]
            exact congrArg (fun f => L (nI (i + 1)) (setR Y4 225 f)) cpN_s
          · rw [it_t (nL_le (by decide)), it_f (by decide)]; rfl
        generalize hY5 : setR Y4 225 (cpN (62 * u) 62 (Y4.1 226) (Y4.1 225)) = Y5 at lp
        have refF : fX12_book 1 Y = some (x4, Y5) := by rw [refE, ca_s st, lp]
        have u5 : Y5.1 225 = undR h (X.1 225) (X.1 220) := by
          have o25 : Y3.1 225 = X.1 225 := by rw [y3c 225 (by decide) (by decide) (by decide) (by decide) (by decide), yM 225 (by decide) (by decide)]
          rw [← hY5, setR_eq, y425, y4r 226 (by decide) (by decide), y226, o25]
          have cg : ∀ d f, cpN d 62 (cpN 0 62 (fun i => X.1 220 (226 + i)) (YE.1 226)) f = cpN d 62 (fun i => X.1 220 (226 + i)) f := fun d f => cpN_congr (fun i hi => by
            unfold cpN
            rw [if_pos (by omega), Nat.sub_zero])
          rw [cg]
          unfold undR
          rcases hu7 with ⟨c1, c2⟩ | ⟨c1, c2⟩
          · rw [if_pos c1, if_pos c1, c2, cpN_cp]
          · rw [if_neg c1, if_neg c1, c2, cpN_cp]
        have y5r : ∀ b, ¬ b = 225 → Y5.1 b = Y4.1 b := fun b hb => by rw [← hY5, setR_ne hb]
        have y5J : Y5.2 = YE.2 := by rw [← hY5]; exact y4J
        refine ⟨x4, X6, Y5, compF, refF, fun b hb => ⟨c6 b (by omega) (by omega) (by omega) (by omega), by rw [JJ6]; exact (sM3 b hb).2⟩, ⟨fun b hb => ⟨?_, ?_⟩, ?_⟩, ?_⟩
        · rw [y5r b (by omega), y4r b (by omega) (by omega), y3c b (by omega) (by omega) (by omega) (by omega) (by omega), sI_row (by omega), sI_row (by omega)]
        · rw [show Y5.2.1 = YE.2.1 by rw [y5J], hG.2.2.1 b (by omega)]; rfl
        · rw [y5J, hG.2.2.2]; rfl
        · generalize hZ : mx X6 Y5 = Z
          have R : ∀ b, ¬ b = 0 → ¬ b = 1 → ¬ (47 ≤ b ∧ b < 130) → ¬ b = 218 → ¬ b = 220 → ¬ b = 222 → ¬ b = 225 → ¬ b = 226 → ¬ b = 233 → Z.1 b = X.1 b := fun b k0 k1 k2 k4 k4' k5 k5' k6 k7 => by
            rw [← hZ]
            by_cases c : b < 218
            · rw [mx_c c, c6 b k0 k1 (by omega) (by omega)]
            · rw [mx_m (by omega), y5r b k5', y4r b k4 k5', y3c b k4 k4' k5 k6 k7, yM b (by omega) k4]
          have F : ∀ k, 20 < k → ¬ k = 23 → ¬ k = 38 → ¬ k = 40 → Z.1 218 k = X.1 218 k := fun k hk k23 h38 h40 => by rw [← hZ, mx_m (by decide), y5r 218 (by decide), y4f k k23, y3f k (Or.inr ⟨hk, h38, h40⟩), yF k (by omega) (by omega)]
          have J : ∀ b, ¬ b = 1 → ¬ b = 218 → Z.2.1 b = X.2.1 b := fun b k1 k3 => by
            rw [← hZ]
            by_cases c : b < 218
            · rw [mx_cJ c, JJ6, show X3.2.1 = XE.2.1 by rw [J3], hF.2.2.1 b k1]
            · rw [mx_mJ (by omega), show Y5.2.1 = YE.2.1 by rw [y5J], hG.2.2.1 b k3, yJ b (by omega)]
          have z11 : Z.1 1 1 = 0 := by rw [← hZ, mx_c (by decide), c63 1 (by omega), c11]
          have z2' : Z.1 218 2 = 0 := by rw [← hZ, mx_m (by decide), y5r 218 (by decide), y4f 2 (by decide), y3f 2 (Or.inl (by decide)), sI_eq]
          have z013 : Z.1 0 13 = Z.1 218 15 := by rw [← hZ, mx_c (by decide), mx_m (by decide), y5r 218 (by decide), y4f 15 (by decide), y315, c63 0 (by omega), c0, if_pos rfl]
          have z014 : Z.1 0 14 = X.1 0 14 := by rw [← hZ, mx_c (by decide), c63 0 (by omega), c0, if_neg (by decide)]
          have zP : bP Z 4 = bP X 4 := eP Z (fun b b1 b2 => R b (by omega) (by omega) (by omega) (by omega) (by omega) (by omega) (by omega) (by omega) (by omega))
          have zV : bV Z 47 = bV X6 47 := bB_same (fun b b1 b2 => by rw [← hZ, mx_c (by omega)])
          have zPJ : bPJ Z 4 = bPJ X 4 := bL_same (fun b b1 b2 => J b (by omega) (by omega))
          have zQ : bQ Z 130 = bQ X 130 := bB_same (fun b b1 b2 => R b (by omega) (by omega) (by omega) (by omega) (by omega) (by omega) (by omega) (by omega) (by omega))
          have z220 : Z.1 220 = Y2.1 220 := by rw [← hZ, mx_m (by decide), y5r 220 (by decide), y4r 220 (by decide) (by decide), y3S]
          have hs : hpush X Z h := by
            refine ⟨by rw [← hZ]; exact G6, by rw [← hZ, mx_c (by decide)]; exact c61, fun q hq hne => ?_, ?_⟩
            · rw [← bvh q hq, ← n6 q hq (by rw [gh3]; exact hne)]
              exact bB_same (fun b b1 b2 => by rw [← hZ, mx_c (by omega), r6 b (by omega), k2 b (by omega)])
            · have hh := H3 h (by omega)
              have e1 : bV Z (63 + 7 * X.2.2 h) = bV X4 (63 + 7 * X.2.2 h) := bB_same (fun b b1 b2 => by rw [← hZ, mx_c (by omega), r6 b (by omega), k2 b (by omega)])
              rw [e1]
              rw [V3, gh3] at n7
              exact n7
          refine ⟨?_, ?_, ?_, ?_, ?_, ?_, ?_, ?_, ?_, ?_⟩
          · exact ⟨0, by decide, z11, z2', fun k hk => absurd hk (Nat.not_lt_zero k)⟩
          · exact hX.k.of (by exact J _ (by omega) (by omega)) (by exact J _ (by omega) (by omega))
          · exact (by
            unfold I_w
            rw [zP, zPJ, zV, zQ, z220, J 223 (by decide) (by decide)]
            exact ⟨w.l, w.c, w.r.lt ok w.l.r (fun k hk => sB k (Or.inl hk)), w.n, V6.wfN ok wN, V6.RW ok wR, V6.wfM ok wM, w.q.fr (fun k hk => sB k (Or.inr hk))⟩)
          · exact H'.push ok w.v w.m w.s hs zP (by rw [← hZ, mx_m (by decide), y5r 218 (by decide), y423, hu]) (by rw [← hZ, mx_m (by decide), u5])
          · exact hX.i.of (fun a ha => by exact R _ (by omega) (by omega) (by omega) (by omega) (by omega) (by omega) (by omega) (by omega) (by omega)) (fun a ha => by exact J _ (by omega) (by omega))
          · exact told Z (by rw [← hZ, mx_c (by decide), c63 126 (by omega)]) (by rw [← hZ, mx_m (by decide), y5r 218 (by decide), y4f 40 (by decide), y340]) (by rw [← hZ, mx_m (by decide), y5r 233 (by decide), y4r 233 (by decide) (by decide)])
          · exact hX.c.of (fun a ha => by exact R _ (by omega) (by omega) (by omega) (by omega) (by omega) (by omega) (by omega) (by omega) (by omega)) (by exact F _ (by decide) (by decide) (by decide) (by decide)) (by exact F _ (by decide) (by decide) (by decide) (by decide))
          · exact hX.f.of (fun a ha => by exact R _ (by omega) (by omega) (by omega) (by omega) (by omega) (by omega) (by omega) (by omega) (by omega)) (by exact F _ (by decide) (by decide) (by decide) (by decide)) (by exact F _ (by decide) (by decide) (by decide) (by decide))
          · exact hX.g.of (fun a ha => by exact R _ (by omega) (by omega) (by omega) (by omega) (by omega) (by omega) (by omega) (by omega) (by omega)) (by exact F _ (by decide) (by decide) (by decide) (by decide))
          · exact ⟨z013, by rw [z014, F 28 (by decide) (by decide) (by decide) (by decide), F 27 (by decide) (by decide) (by decide) (by decide)]; exact hX.o.2⟩
theorem sim_book (a : Int32) : Sim (fX11_book a) (fX12_book a) := fun X hX => by
  by_cases c : a = 0 ∨ a = 1
  · exact sim_mix (fun X Y hX hM => book_rel c X Y hX hM) X hX
  · refine ⟨-1000, X, sI X 218 0 0, ?_, ?_, hX.thrown⟩
    · unfold fX11_book
      rw [jo0_e, it_f (fun z => c (Or.inl z)), it_f (fun z => c (Or.inr z))]; rfl
    · rw [book_def, pI_e, ca_s (isIn_f c), it_t rfl]; rfl
end BB
