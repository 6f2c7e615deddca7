/-! sentence -/
section SI
variable {X Y X1 Y1 X0 Y0 : X_} {n p : Nat}
theorem e_kSF {c o : Nat} (h42 : Y.1 218 42 = nI c) (h43 : Y.1 218 43 = nI o) (hc : c ≤ 40) : kSF Y = some (nI o, setR Y 220 (cpN 289 (3 * c) (Y.1 222) (upS (Y.1 220) 288 (nI c)))) := by
  have e0 : sI Y 220 288 (nI c) = setR Y 220 (upS (Y.1 220) 288 (nI c)) := by rw [← setR_s, setR_self rfl]
  unfold kSF
  rw [gI_e, h42, wA_l (by decide) (by decide)]
  have z0 : (fun i => setR Y 220 (cpN 289 i (Y.1 222) (upS (Y.1 220) 288 (nI c)))) 0 = sI Y 220 288 (nI c) := by
    show setR Y 220 (cpN 289 0 (Y.1 222) _) = _
    rw [cpN_0]; exact e0.symm
  conv => lhs; rw [show (sI Y 220 (OfNat.ofNat 288) (nI c)) = sI Y 220 288 (nI c) from rfl, ← z0]
  refine lz1_X (n := 3 * c) (fun i => setR Y 220 (cpN 289 i (Y.1 222) (upS (Y.1 220) 288 (nI c)))) (by omega) (fun i L hi => ?_) (fun L => ?_)
  · rw [gI_e, setR_ne (by decide), h42, ix_lm, it_f (fun z => absurd ((nI_leI (by omega) (by omega)).mp z) (by omega)), rA_n (by omega) (by decide), setR_ne (by decide), ix_la, wA_n (by omega) (by decide), setR_s, nI_1]
    exact congrArg (fun f => L (nI (i + 1)) (setR Y 220 f)) cpN_s
  · rw [gI_e, setR_ne (by decide), h42, ix_lm, it_t (nI_le (by omega) (by omega)), gI_e, setR_ne (by decide), h43]; rfl
theorem k_cp7o {u u' : Nat} {Y Z : X_} (d : dj u' 4 u 4) (h : Y.1 u 0 = 0 ∨ Y.1 u 0 = 1) (hz : fX7_copyFrom u' u Y = some ((), Z)) : Z.1 u' 1 = Y.1 u 1 := by
  unfold dj at d
  have ev : fX7_copyFrom u' u Y = some ((), setR (setR (setR (sI (sI (sI Y u' 0 (Y.1 u 0)) u' 1 (Y.1 u 1)) u' 2 (Y.1 u 2)) (u' + 1) (cpy 40 (Y.1 (u + 1)) (Y.1 (u' + 1)))) (u' + 2) (cpy 40 (Y.1 (u + 2)) (Y.1 (u' + 2)))) (u' + 3) (cpy 40 (Y.1 (u + 3)) (Y.1 (u' + 3)))) := by
    unfold fX7_copyFrom
    rw [gI_e, pZ_e h, gI_e, sI_row (by omega), pI_e, gI_e, sI_row (by omega), sI_row (by omega), pI_e]
    have row : ∀ a b Z, fX11_copyRow a b 40 Z = some ((), setR Z b (cpy 40 (Z.1 a) (Z.1 b))) := fun a b Z => rfl
    rw [ca_s (row _ _ _), ca_s (row _ _ _), ca_s (row _ _ _)]
    rw [setR_ne (show ¬ u + 3 = u' + 2 by omega), setR_ne (show ¬ u + 3 = u' + 1 by omega), setR_ne (show ¬ u' + 3 = u' + 2 by omega), setR_ne (show ¬ u' + 3 = u' + 1 by omega), setR_ne (show ¬ u + 2 = u' + 1 by omega), setR_ne (show ¬ u' + 2 = u' + 1 by omega)]
    have s3 : ∀ c, ¬ c = u' → (sI (sI (sI Y u' 0 (Y.1 u 0)) u' 1 (Y.1 u 1)) u' 2 (Y.1 u 2)).1 c = Y.1 c := fun c hc => by rw [sI_row hc, sI_row hc, sI_row hc]
    rw [s3 _ (by omega), s3 _ (by omega), s3 _ (by omega), s3 _ (by omega), s3 _ (by omega), s3 _ (by omega)]
    rfl
  have e := (Prod.mk.inj (Option.some.inj (hz.symm.trans ev))).2
  rw [e, setR_ne (by omega), setR_ne (by omega), setR_ne (by omega), sI_ne (by omega), sI_eq]
theorem sentence_def : fX12_sentence = (pI 218 0 0 (ca (fX12_taken 200) fun _ => (pI 218 15 0 (pI 218 42 0 (pI 218 43 0 (pI 218 44 0 (pI 218 45 1 (pI 218 46 0 (ca fX12_next fun _ => kSL FU 1))))))))) := rfl
theorem sq_start (hX : Inv X) (hM : sameM X Y) : ∃ XD YD n p, (∀ E : RM Int32, (ca (fX10_begin 200) fun _ => (pI 135 1 0 (pI 135 2 0 (pI 135 0 0 (ca fX10_next fun _ => E))))) X = E XD) ∧ (∀ F : RM Int32, (ca (fX12_taken 200) fun _ => (pI 218 15 0 (pI 218 42 0 (pI 218 43 0 (pI 218 44 0 (pI 218 45 1 (pI 218 46 0 (ca fX12_next fun _ => F)))))))) (sI Y 218 0 0) = F YD) ∧ SQ X (sI (sI Y 218 0 0) 218 2 0) n p 0 0 0 1 0 [] [] XD YD ∧ TK XD YD := by
  have b0 : fX10_begin 200 X = some ((), bk X 1 3 (t_begin (bT X) 200) (bTJ X)) := rfl
  generalize hA : bk X 1 3 (t_begin (bT X) 200) (bTJ X) = XA at b0
  have a1 : ∀ k, XA.1 1 k = t_begin (bT X) 200 0 k := fun k => by rw [← hA]; exact congrFun (bk_in0 (by decide)) k
  have a2 : XA.1 2 = X.1 2 := by
    rw [← hA]
    refine (bk_in (b := 1) (j := 1) (by decide)).trans ?_
    funext k
    simp [t_begin, u2]; rfl
  have a3 : XA.1 3 = X.1 3 := by
    rw [← hA]
    refine (bk_in (b := 1) (j := 2) (by decide)).trans ?_
    funext k
    simp [t_begin, u2]; rfl
  have aJ : XA.2 = X.2 := by rw [← hA]; exact bk_2
  have ao : ∀ a, ¬ (1 ≤ a ∧ a < 4) → XA.1 a = X.1 a := fun a h => by rw [← hA]; exact bk_row (by omega)
  generalize hXC : sI (sI (sI XA 135 1 0) 135 2 0) 135 0 0 = XC
  generalize hYB : sI (sI (sI (sI (sI (sI Y 218 0 0) 218 3 (Y.1 218 2)) 218 2 0) 218 4 0) 218 5 200) 218 15 0 = YB
  generalize hYC : sI (sI (sI (sI (sI YB 218 42 0) 218 43 0) 218 44 0) 218 45 1) 218 46 0 = YC
  have yB : ∀ k, ¬ k = 42 → ¬ k = 43 → ¬ k = 44 → ¬ k = 45 → ¬ k = 46 → YC.1 218 k = YB.1 218 k := fun k h2 h3 h4 h5 h6 => by
    rw [← hYC, sI_ne (by omega), sI_ne (by omega), sI_ne (by omega), sI_ne (by omega), sI_ne (by omega)]
  have yf : ∀ k, ¬ k = 0 → ¬ k = 2 → ¬ k = 3 → ¬ k = 4 → ¬ k = 5 → ¬ k = 15 → YB.1 218 k = Y.1 218 k := fun k h0 h2 h3 h4 h5 h15 => by
    rw [← hYB, sI_ne (by omega), sI_ne (by omega), sI_ne (by omega), sI_ne (by omega), sI_ne (by omega), sI_ne (by omega)]
  have yr : ∀ a, ¬ a = 218 → YC.1 a = Y.1 a := fun a h => by rw [← hYC, sI_row h, sI_row h, sI_row h, sI_row h, sI_row h, ← hYB, sI_row h, sI_row h, sI_row h, sI_row h, sI_row h, sI_row h]
  have yJ : YC.2 = Y.2 := by rw [← hYC, ← hYB]; rfl
  have xr : ∀ a, ¬ a = 135 → XC.1 a = XA.1 a := fun a h => by rw [← hXC, sI_row h, sI_row h, sI_row h]
  have xJ : XC.2 = X.2 := by rw [← hXC]; exact aJ
  have tb1 : ∀ k, XC.1 1 k = t_begin (bT X) 200 0 k := fun k => by rw [xr 1 (by decide)]; exact a1 k
  obtain ⟨n, hTB⟩ := taken_TB (m := 200) (Xa := XC) (Ya := YC) hX hM (by decide) (fun k h2 h3 h9 h10 => by
    rw [tb1]
    unfold t_begin
    rw [u2_ne (by omega), u2_ne (by omega), u2_ne (by omega), u2_ne (by omega)]; rfl) (by
    rw [tb1]
    unfold t_begin
    rw [u2_ne (by omega), u2_ne (by omega), u2_ne (by omega), u2_eq]; rfl) (by
    rw [tb1]
    unfold t_begin
    rw [u2_ne (by omega), u2_ne (by omega), u2_eq]) (by rw [xr 2 (by decide), a2]) (by rw [show XC.2.1 = X.2.1 by rw [xJ]]) (by
    rw [yB 3 (by decide) (by decide) (by decide) (by decide) (by decide), ← hYB, sI_ne (by decide), sI_ne (by decide), sI_ne (by decide), sI_ne (by decide), sI_eq]) (by
    rw [yB 4 (by decide) (by decide) (by decide) (by decide) (by decide), ← hYB, sI_ne (by decide), sI_ne (by decide), sI_eq]) (by
    rw [yB 5 (by decide) (by decide) (by decide) (by decide) (by decide), ← hYB, sI_ne (by decide), sI_eq]; rfl) (by rw [yr 219 (by decide)]) (by rw [show YC.2.1 = Y.2.1 by rw [yJ]])
  have hSQ : SQ X (sI (sI Y 218 0 0) 218 2 0) n 0 0 0 0 1 0 [] [] XC YC := by
    refine ⟨⟨hTB, ?_, ?_⟩, ⟨⟨fun a h1 h2 => ?_, fun a h1 => ?_, ?_⟩, fun a h1 h2 h3 => ?_, fun k hk => ?_, fun a h1 => ?_, ?_⟩, ⟨⟨?_, ?_, by decide⟩, ?_, ?_, Nat.le_refl 0, by decide⟩, ⟨fun i hi => absurd hi (Nat.not_lt_zero i), trivial, ⟨fun _ => 0, rfl, rfl, fun i hi => absurd hi (Nat.not_lt_zero i)⟩, Nat.le_refl 0⟩, ⟨?_, trivial, by decide⟩, ?_, ?_⟩
    · rw [tb1]
      unfold t_begin
      rw [u2_ne (by omega), u2_eq]
    · rw [yB 15 (by decide) (by decide) (by decide) (by decide) (by decide), ← hYB, sI_eq]
    · rw [xr a (by omega)]
      by_cases c2 : a = 2
      · subst c2; exact a2
      · by_cases c3 : a = 3
        · subst c3; exact a3
        · exact ao a (by omega)
    · rw [show XC.2.1 = X.2.1 by rw [xJ]]
    · rw [xJ]
    · rw [yr a h1, sI_row h1, sI_row h1]
    · rw [yB k (by omega) (by omega) (by omega) (by omega) (by omega)]
      by_cases k0 : k = 0
      · subst k0
        rw [← hYB, sI_ne (by decide), sI_ne (by decide), sI_ne (by decide), sI_ne (by decide), sI_ne (by decide), sI_eq, sI_ne (by decide), sI_eq]
      · by_cases k2 : k = 2
        · subst k2
          rw [← hYB, sI_ne (by decide), sI_ne (by decide), sI_ne (by decide), sI_eq, sI_eq]
        · rw [yf k k0 k2 (by omega) (by omega) (by omega) (by omega), sI_ne (by omega), sI_ne (by omega)]
    · rw [show YC.2.1 = Y.2.1 by rw [yJ]]; rfl
    · rw [yJ]; rfl
    · rw [← hXC, sI_ne (by decide), sI_ne (by decide), sI_eq]; rfl
    · rw [← hYC, sI_ne (by decide), sI_ne (by decide), sI_ne (by decide), sI_eq]; rfl
    · rw [← hXC, sI_ne (by decide), sI_eq]; rfl
    · rw [← hYC, sI_ne (by decide), sI_ne (by decide), sI_ne (by decide), sI_ne (by decide), sI_eq]; rfl
    · rw [← hYC, sI_ne (by decide), sI_ne (by decide), sI_eq]; rfl
    · rw [← hYC, sI_ne (by decide), sI_eq]; rfl
    · rw [← hYC, sI_eq]
  obtain ⟨XD, YD, p, n1, n2, hD, K, -⟩ := hSQ.next
  refine ⟨XD, YD, n, p, fun E => ?_, fun F => ?_, hD, K⟩
  · rw [ca_s b0, pI_e, pI_e, pI_e, hXC, ca_s n1]
  · have tk : fX12_taken 200 (sI Y 218 0 0) = some ((), sI (sI (sI (sI (sI Y 218 0 0) 218 3 (Y.1 218 2)) 218 2 0) 218 4 0) 218 5 200) := by
      unfold fX12_taken
      rw [gI_e, sI_ne (by decide)]; rfl
    rw [ca_s tk, pI_e, hYB, pI_e, pI_e, pI_e, pI_e, pI_e, hYC, ca_s n2]
theorem sim_sentence : Sim fX11_sentence fX12_sentence := sim_mix (fun X Y hX hM => by
  have w := hX.w
  have ok := w.ok
  obtain ⟨XD, YD, n, p, s1, s2, hSQ, K⟩ := sq_start hX hM
  have y220 : (sI (sI Y 218 0 0) 218 2 0).1 220 = X.1 220 := by rw [sI_row (by decide), sI_row (by decide)]; exact (hM 220 (by decide)).1
  have hW : Wd (bP X 4) (bPJ X 4) (bV X 47) (bQ X 130) ((sI (sI Y 218 0 0) 218 2 0).1 220) ((sI (sI Y 218 0 0) 218 2 0).2.1 223) := by
    rw [y220, show (sI (sI Y 218 0 0) 218 2 0).2.1 223 = X.2.1 223 from (hM 223 (by decide)).2]
    exact w
  have z := (r_sen (n := n) hW 30).1 1 p 0 0 0 [] FU XD YD (by decide) ⟨hSQ, K, by decide, by rw [FU_eq]; omega, ⟨by decide, by decide⟩, by decide, Or.inr (Or.inr ⟨rfl, fun a s e => absurd e (List.cons_ne_nil a s).symm⟩)⟩
  have p1 : fX7_readOnes X = (ca (fX7_readCond 1) fun v1 => (it (v1 = 0) (re 0) (gI 1 4 fun v2 => (it (v2 = 0) (pI 135 0 1 (re 1)) (ca (fX10_wrong 1) fun v3 => (rz v3)))))) XD := by
    unfold fX7_readOnes
    exact s1 _
  have p2 : fX12_sentence Y = kSL FU 1 YD := by rw [sentence_def, pI_e, s2]
  have p3 : fX11_sentence X = (ca fX7_readOnes fun v1 => (gI 1 9 fun v2 => (pI 0 13 v2 (pI 1 1 0 (it (v1 = 0) (gI 1 10 fun v4 => (re ((-1) - v4))) (ca (fX7_copyFrom 130 135) fun _ => (gI 130 1 fun v3 => (re v3)))))))) X := rfl
  have yM : ∀ b, 218 ≤ b → ¬ b = 218 → (sI (sI Y 218 0 0) 218 2 0).1 b = X.1 b := fun b h1 h2 => by rw [sI_row h2, sI_row h2]; exact (hM b h1).1
  have yJ : ∀ b, 218 ≤ b → (sI (sI Y 218 0 0) 218 2 0).2.1 b = X.2.1 b := fun b h1 => (hM b h1).2
  have yF : ∀ k, ¬ k = 0 → ¬ k = 2 → (sI (sI Y 218 0 0) 218 2 0).1 218 k = X.1 218 k := fun k h0 h2 => by rw [sI_ne (by omega), sI_ne (by omega), (hM 218 (by decide)).1]
  -- it is no sentence
  have bad : ∀ XF YF, fX7_readOnes X = some (0, XF) → kSL FU 1 YD = some ((-1) - YF.1 218 16, YF) → LXq X (sI (sI Y 218 0 0) 218 2 0) XF YF → ∃ v X1 Y1, fX11_sentence X = some (v, X1) ∧ fX12_sentence Y = some (v, Y1) ∧ sameM X X1 ∧ sameK Y Y1 ∧ Inv (mx X1 Y1) := fun XF YF z1 z2 hL => by
    obtain ⟨hF, hG, e9, e10⟩ := hL
    refine ⟨(-1) - YF.1 218 16, sI (sI XF 0 13 (XF.1 1 9)) 1 1 0, YF, ?_, p2.trans z2, fun b hb => ?_, ⟨fun b hb => ?_, ?_⟩, ?_⟩
    · rw [p3, ca_s z1, gI_e, pI_e, pI_e, it_t rfl, gI_e, sI_ne (by decide), sI_row (by decide), e10]; rfl
    · rw [sI_row (by omega), sI_row (by omega)]
      exact ⟨hF.1 b (by omega) (by omega), hF.2.1 b (by omega)⟩
    · exact ⟨by rw [hG.1 b (by omega) (by omega) (by omega), sI_row (by omega), sI_row (by omega)], by rw [hG.2.2.1 b (by omega)]; rfl⟩
    · exact hG.2.2.2
    · generalize hZ : mx (sI (sI XF 0 13 (XF.1 1 9)) 1 1 0) YF = Z
      have R : ∀ b, ¬ b = 0 → ¬ b = 1 → ¬ (135 ≤ b ∧ b < 139) → ¬ b = 218 → ¬ b = 222 → ¬ b = 234 → Z.1 b = X.1 b := fun b h0 h1 h2 h3 h4 h5 => by
        rw [← hZ]
        by_cases c : b < 218
        · rw [mx_c c, sI_row h1, sI_row h0]; exact hF.1 b h1 h2
        · rw [mx_m (by omega), hG.1 b h3 h4 h5, yM b (by omega) h3]
      have F : ∀ k, (20 < k ∧ k < 42) ∨ 46 < k → Z.1 218 k = X.1 218 k := fun k hk => by rw [← hZ, mx_m (by decide), hG.2.1 k (Or.inr hk), yF k (by omega) (by omega)]
      have J : ∀ b, ¬ b = 1 → ¬ b = 218 → Z.2.1 b = X.2.1 b := fun b h1 h3 => by
        rw [← hZ]
        by_cases c : b < 218
        · rw [mx_cJ c]; exact hF.2.1 b h1
        · rw [mx_mJ (by omega), hG.2.2.1 b h3, yJ b (by omega)]
      have Gh : Z.2.2 = X.2.2 := by rw [← hZ]; exact hF.2.2
      have z11 : Z.1 1 1 = 0 := by rw [← hZ, mx_c (by decide), sI_eq]
      have z2' : Z.1 218 2 = 0 := by rw [← hZ, mx_m (by decide), hG.2.1 2 (by decide), sI_eq]
      have z013 : Z.1 0 13 = Z.1 218 15 := by rw [← hZ, mx_c (by decide), mx_m (by decide), sI_row (by decide), sI_eq]; exact e9
      have z014 : Z.1 0 14 = X.1 0 14 := by rw [← hZ, mx_c (by decide), sI_row (by decide), sI_ne (by decide), hF.1 0 (by decide) (by omega)]
      refine ⟨?_, ?_, ?_, ?_, ?_, ?_, ?_, ?_, ?_, ?_⟩
      · exact ⟨0, by decide, z11, z2', fun k hk => absurd hk (Nat.not_lt_zero k)⟩
      · exact hX.k.of (by exact J _ (by omega) (by omega)) (by exact J _ (by omega) (by omega))
      · exact hX.w.of (fun a ha => by exact R _ (by omega) (by omega) (by omega) (by omega) (by omega) (by omega)) (fun a ha => by exact J _ (by omega) (by omega))
      · exact hX.h.of (fun a ha => by exact R _ (by omega) (by omega) (by omega) (by omega) (by omega) (by omega)) (by exact F _ (by decide)) Gh
      · exact hX.i.of (fun a ha => by exact R _ (by omega) (by omega) (by omega) (by omega) (by omega) (by omega)) (fun a ha => by exact J _ (by omega) (by omega))
      · exact hX.b.of (by exact R _ (by omega) (by omega) (by omega) (by omega) (by omega) (by omega)) (by exact F _ (by decide)) (by exact R _ (by omega) (by omega) (by omega) (by omega) (by omega) (by omega))
      · exact hX.c.of (fun a ha => by exact R _ (by omega) (by omega) (by omega) (by omega) (by omega) (by omega)) (by exact F _ (by decide)) (by exact F _ (by decide))
      · exact hX.f.of (fun a ha => by exact R _ (by omega) (by omega) (by omega) (by omega) (by omega) (by omega)) (by exact F _ (by decide)) (by exact F _ (by decide))
      · exact hX.g.of (fun a ha => by exact R _ (by omega) (by omega) (by omega) (by omega) (by omega) (by omega)) (by exact F _ (by decide))
      · exact ⟨z013, by rw [z014, F 28 (by decide), F 27 (by decide)]; exact hX.o.2⟩
  rcases z with ⟨XF, YF, z1, z2, hL⟩ | ⟨X4, Y4, f', p4, o4, m4, j, ρ, z1, z2, h4, K4, g1, g2, g3, g4, g5⟩
  · exact bad XF YF (by rw [p1, ca_s (show fX7_readCond 1 XD = some (0, XF) from z1), it_t rfl]; rfl) z2 hL
  · have rc : fX7_readCond 1 XD = some (1, X4) := z1
    rw [ca_s rc, it_f (by decide), gI_e] at p1
    have o4' : o4 ≤ 20 := h4.2.2.1.1.2.2
    obtain ⟨f', rfl⟩ : ∃ g, f' = g + 2 := ⟨f' - 2, by rw [FU_eq] at g3; omega⟩
    have w4 : Y4.1 218 46 = 1 := h4.2.2.2.2.2.2
    have hρ : ∀ a ∈ ρ, a = 21 ∨ (a = 22 ∧ (22 : Int32) = 22) := fun a ha => by
      rcases g4 with e | e | e | e <;> rw [e] at ha
      · exact absurd ha (List.not_mem_nil)
      · rcases List.mem_cons.mp ha with z | z
        · exact Or.inl z
        · exact absurd z (List.not_mem_nil)
      · rcases List.mem_cons.mp ha with z | z
        · exact Or.inr ⟨z, rfl⟩
        · exact absurd z (List.not_mem_nil)
      · rcases List.mem_cons.mp ha with z | z
        · exact Or.inl z
        · rcases List.mem_cons.mp z with z | z
          · exact Or.inr ⟨z, rfl⟩
          · exact absurd z (List.not_mem_nil)
    have hρ0 : ∀ a s, ρ ++ [] = a :: s → ¬ a = 20 := fun a s e => by
      rw [List.append_nil] at e
      rcases g4 with q | q | q | q <;> rw [q] at e
      · exact absurd e (List.cons_ne_nil a s).symm
      · obtain ⟨rfl, -⟩ := List.cons.inj e; decide
      · obtain ⟨rfl, -⟩ := List.cons.inj e; decide
      · obtain ⟨rfl, -⟩ := List.cons.inj e; decide
    have lρ : (List.replicate j (20 : Int32) ++ ρ).length + ([] : List Int32).length ≤ 40 := h4.2.2.2.2.1.2.2
    rw [List.length_append, List.length_replicate] at lρ
    obtain ⟨Y5, y1, y2, y3, y4⟩ := e_nots FU h4 (by rw [FU_eq]; omega) hρ0
    obtain ⟨Y6, q1, h6, q3, q4⟩ := e_joins (till := 22) FU y2 (by rw [FU_eq]; omega) hρ (fun a s e => absurd e (List.cons_ne_nil a s).symm)
    have y1 : fX12_nots Y4 = some ((), Y5) := y1
    have q1 : fX12_joins 22 Y5 = some ((), Y6) := q1
    have K5 : TK X4 Y5 := K4.y (y3 11 (by decide) (by decide) (by decide)) (y3 12 (by decide) (by decide) (by decide)) (y3 14 (by decide) (by decide) (by decide)) (by rw [y4])
    have K6 : TK X4 Y6 := K5.y (q3 11 (by decide) (by decide)) (q3 12 (by decide) (by decide)) (q3 14 (by decide) (by decide)) (by rw [q4])
    have t6 : Y6.1 218 44 = 0 := h6.2.2.2.2.1.1
    by_cases en : X4.1 1 4 = 0
    · -- it ends where it should
      rw [it_t en, pI_e] at p1
      have r1 := st_end (f := f' + 1) w4 (K4.end.mp en) y1 q1
      rw [t6, if_pos (by decide)] at r1
      have c6 : Y6.1 218 42 = nI m4 := h6.2.2.1.2.2.1
      have o6 : Y6.1 218 43 = nI o4 := h6.2.2.1.1.2.1
      have m40 : m4 ≤ 40 := h6.2.2.1.2.2.2.2
      have r2 : kSL (f' + 1) 0 Y6 = kSF Y6 := by
        rw [show kSL (f' + 1) 0 = kSB (kSL f') 0 from rfl]
        unfold kSB
        rw [it_t rfl]
      have refF : fX12_sentence Y = some (nI o4, setR Y6 220 (cpN 289 (3 * m4) (Y6.1 222) (upS (Y6.1 220) 288 (nI m4)))) := by rw [p2, z2, r1, r2, e_kSF c6 o6 m40]
      obtain ⟨⟨-, f9, f15⟩, ⟨hF, hG⟩, ⟨⟨ox, -, -⟩, mx4, -⟩, ⟨hcr, -, hvd, -⟩, -⟩ := h6
      have hcr : cr (bP X 4) (X4.1 136) (X4.1 137) (X4.1 138) (Y6.1 222) m4 := hcr
      generalize hXH : sI (sI (sI X4 135 0 1) 0 13 0) 1 1 0 = XH
      have hr : ∀ b, ¬ b = 0 → ¬ b = 1 → ¬ b = 135 → XH.1 b = X4.1 b := fun b h0 h1 h2 => by rw [← hXH, sI_row h1, sI_row h0, sI_row h2]
      have hJ : XH.2 = X4.2 := by rw [← hXH]; rfl
      have h135 : ∀ k, ¬ k = 0 → XH.1 135 k = X4.1 135 k := fun k hk => by rw [← hXH, sI_row (by decide), sI_row (by decide), sI_ne (by omega)]
      have h1350 : XH.1 135 0 = 1 := by rw [← hXH, sI_row (by decide), sI_row (by decide), sI_eq]
      have dd : dj 130 4 135 4 := by unfold dj; omega
      obtain ⟨XZ, k1, k2, k3, k4⟩ := k_cp7 (u := 135) (u' := 130) (Y := XH) dd (Or.inr h1350)
      have kO := k_cp7o dd (Or.inr h1350) k1
      have compF : fX11_sentence X = some (nI o4, XZ) := by
        rw [p3, ca_s (show fX7_readOnes X = some (1, sI X4 135 0 1) from p1), gI_e, sI_row (by decide), f9, pI_e, pI_e, hXH, it_f (by decide), ca_s k1, gI_e, kO, h135 1 (by decide), ox]; rfl
      generalize hYf : setR Y6 220 (cpN 289 (3 * m4) (Y6.1 222) (upS (Y6.1 220) 288 (nI m4))) = Yf at refF
      have fr_ : ∀ b, ¬ b = 220 → Yf.1 b = Y6.1 b := fun b hb => by rw [← hYf, setR_ne hb]
      have fJ : Yf.2 = Y6.2 := by rw [← hYf]; rfl
      have f220 : Yf.1 220 = cpN 289 (3 * m4) (Y6.1 222) (upS (X.1 220) 288 (nI m4)) := by rw [← hYf, setR_eq, hG.1 220 (by decide) (by decide) (by decide), y220]
      refine ⟨nI o4, XZ, Yf, compF, refF, fun b hb => ?_, ⟨fun b hb => ?_, ?_⟩, ?_⟩
      · exact ⟨by rw [k2 b (by omega), hr b (by omega) (by omega) (by omega), hF.1 b (by omega) (by omega)], by rw [show XZ.2.1 = X4.2.1 by rw [k3, hJ], hF.2.1 b (by omega)]⟩
      · exact ⟨by rw [fr_ b (by omega), hG.1 b (by omega) (by omega) (by omega), sI_row (by omega), sI_row (by omega)], by rw [show Yf.2.1 = Y6.2.1 by rw [fJ], hG.2.2.1 b (by omega)]; rfl⟩
      · rw [fJ]; exact hG.2.2.2
      · generalize hZ : mx XZ Yf = Z
        have R : ∀ b, ¬ b = 0 → ¬ b = 1 → ¬ (130 ≤ b ∧ b < 139) → ¬ b = 218 → ¬ b = 220 → ¬ b = 222 → ¬ b = 234 → Z.1 b = X.1 b := fun b h0 h1 h2 h3 h3' h4 h5 => by
          rw [← hZ]
          by_cases c : b < 218
          · rw [mx_c c, k2 b (by omega), hr b h0 h1 (by omega), hF.1 b h1 (by omega)]
          · rw [mx_m (by omega), fr_ b h3', hG.1 b h3 h4 h5, yM b (by omega) h3]
        have F : ∀ k, (20 < k ∧ k < 42) ∨ 46 < k → Z.1 218 k = X.1 218 k := fun k hk => by rw [← hZ, mx_m (by decide), fr_ 218 (by decide), hG.2.1 k (Or.inr hk), yF k (by omega) (by omega)]
        have J : ∀ b, ¬ b = 1 → ¬ b = 218 → Z.2.1 b = X.2.1 b := fun b h1 h3 => by
          rw [← hZ]
          by_cases c : b < 218
          · rw [mx_cJ c, show XZ.2.1 = X4.2.1 by rw [k3, hJ]]; exact hF.2.1 b h1
          · rw [mx_mJ (by omega), show Yf.2.1 = Y6.2.1 by rw [fJ], hG.2.2.1 b h3, yJ b (by omega)]
        have Gh : Z.2.2 = X.2.2 := by
          rw [← hZ]
          show XZ.2.2 = _
          rw [k3, hJ]; exact hF.2.2
        have z11 : Z.1 1 1 = 0 := by rw [← hZ, mx_c (by decide), k2 1 (by omega), ← hXH, sI_eq]
        have z2' : Z.1 218 2 = 0 := by rw [← hZ, mx_m (by decide), fr_ 218 (by decide), hG.2.1 2 (by decide), sI_eq]
        have z013 : Z.1 0 13 = Z.1 218 15 := by rw [← hZ, mx_c (by decide), mx_m (by decide), k2 0 (by omega), ← hXH, sI_row (by decide), sI_eq, fr_ 218 (by decide), f15]
        have z014 : Z.1 0 14 = X.1 0 14 := by rw [← hZ, mx_c (by decide), k2 0 (by omega), ← hXH, sI_row (by decide), sI_ne (by decide), sI_row (by decide), hF.1 0 (by decide) (by omega)]
        have zP : bP Z 4 = bP X 4 := bB_same (fun b b1 b2 => R b (by omega) (by omega) (by omega) (by omega) (by omega) (by omega) (by omega))
        have zV : bV Z 47 = bV X 47 := bB_same (fun b b1 b2 => R b (by omega) (by omega) (by omega) (by omega) (by omega) (by omega) (by omega))
        have zPJ : bPJ Z 4 = bPJ X 4 := bL_same (fun b b1 b2 => J b (by omega) (by omega))
        have zQ : bQ Z 130 = bQ XZ 130 := bB_same (fun b b1 b2 => by rw [← hZ, mx_c (by omega)])
        have z220 : Z.1 220 = cpN 289 (3 * m4) (Y6.1 222) (upS (X.1 220) 288 (nI m4)) := by rw [← hZ, mx_m (by decide), f220]
        have sB : ∀ k, k < 288 → cpN 289 (3 * m4) (Y6.1 222) (upS (X.1 220) 288 (nI m4)) k = X.1 220 k := fun k hk => by
          unfold cpN
          rw [if_neg (by omega), upS_ne (by omega)]
        have sC : ∀ i, i < 3 * m4 → cpN 289 (3 * m4) (Y6.1 222) (upS (X.1 220) 288 (nI m4)) (289 + i) = Y6.1 222 i := fun i hi => by
          unfold cpN
          rw [if_pos (by omega), show 289 + i - 289 = i by omega]
        obtain ⟨t0, t2, tt⟩ := k4
        have tt : ∀ i, i < 40 → bQ XZ 130 1 i = X4.1 136 i ∧ bQ XZ 130 2 i = X4.1 137 i ∧ bQ XZ 130 3 i = X4.1 138 i := fun i hi => by
          obtain ⟨a, b, c⟩ := tt i hi
          have r136 := congrFun (hr 136 (by decide) (by decide) (by decide)) i
          have r137 := congrFun (hr 137 (by decide) (by decide) (by decide)) i
          have r138 := congrFun (hr 138 (by decide) (by decide) (by decide)) i
          exact ⟨a.trans r136, b.trans r137, c.trans r138⟩
        have hq : rQ (bP X 4) (bQ XZ 130) (cpN 289 (3 * m4) (Y6.1 222) (upS (X.1 220) 288 (nI m4))) := by
          obtain ⟨d, d0, dm, dd⟩ := hvd
          refine Or.inr ⟨t0.trans h1350, m4, ?_, m40, t2.trans ((h135 2 (by decide)).trans mx4), ?_, fun i hi => ?_, d, d0, dm, fun i hi => ?_⟩
          · rcases Nat.eq_zero_or_pos m4 with e | e
            · rw [e, d0] at dm; exact absurd dm (by decide)
            · exact e
          · unfold cpN
            rw [if_neg (by omega), upS_eq]
          · obtain ⟨a, b, c⟩ := tt i (by omega)
            rw [a, b, c, sC (3 * i) (by omega), show 290 + 3 * i = 289 + (3 * i + 1) by omega, sC (3 * i + 1) (by omega), show 291 + 3 * i = 289 + (3 * i + 2) by omega, sC (3 * i + 2) (by omega)]
            exact hcr i hi
          · rw [(tt i (by omega)).1]
            exact dd i hi
        refine ⟨?_, ?_, ?_, ?_, ?_, ?_, ?_, ?_, ?_, ?_⟩
        · exact ⟨0, by decide, z11, z2', fun k hk => absurd hk (Nat.not_lt_zero k)⟩
        · exact hX.k.of (by exact J _ (by omega) (by omega)) (by exact J _ (by omega) (by omega))
        · exact (by
          unfold I_w
          rw [zP, zPJ, zV, zQ, z220, J 223 (by decide) (by decide)]
          exact ⟨w.l, w.c, w.r.lt ok w.l.r (fun k hk => sB k (by omega)), w.n, w.v, w.s.same ok (fun k h1 h2 => sB k h2), w.m, hq⟩)
        · exact hX.h.of (fun a ha => by exact R _ (by omega) (by omega) (by omega) (by omega) (by omega) (by omega) (by omega)) (by exact F _ (by decide)) Gh
        · exact hX.i.of (fun a ha => by exact R _ (by omega) (by omega) (by omega) (by omega) (by omega) (by omega) (by omega)) (fun a ha => by exact J _ (by omega) (by omega))
        · exact hX.b.of (by exact R _ (by omega) (by omega) (by omega) (by omega) (by omega) (by omega) (by omega)) (by exact F _ (by decide)) (by exact R _ (by omega) (by omega) (by omega) (by omega) (by omega) (by omega) (by omega))
        · exact hX.c.of (fun a ha => by exact R _ (by omega) (by omega) (by omega) (by omega) (by omega) (by omega) (by omega)) (by exact F _ (by decide)) (by exact F _ (by decide))
        · exact hX.f.of (fun a ha => by exact R _ (by omega) (by omega) (by omega) (by omega) (by omega) (by omega) (by omega)) (by exact F _ (by decide)) (by exact F _ (by decide))
        · exact hX.g.of (fun a ha => by exact R _ (by omega) (by omega) (by omega) (by omega) (by omega) (by omega) (by omega)) (by exact F _ (by decide))
        · exact ⟨z013, by rw [z014, F 28 (by decide), F 27 (by decide)]; exact hX.o.2⟩
    · -- something comes behind it
      have fl := h6.fail (FL.w (w := 1) K6.1)
      refine bad (wX X4 1) (wY Y6 1) (by rw [p1, it_f en, ca_s (e_wrong 1), rz_0]) ?_ fl
      have bh : fX12_behind Y4 = some (0, wY Y6 1) := by
        have sgr := e_isSignR K6 (k0 := 41) (c := 41) rfl (Or.inr (Or.inr (Or.inl rfl)))
        unfold fX12_behind
        rw [ca_s y1, ca_s (e_isWord K5 (k := 22) (by decide) kw_d.2.1.symm), decide_eq_false g5.1, it_t (show b2 false = 0 from rfl), ca_s (e_isWord K5 (k := 21) (by decide) kw_d.1.symm), decide_eq_false g5.2, it_t (show b2 false = 0 from rfl), ca_s q1, ca_s sgr]
        cases t_isSign (bT X4) 41
        · rw [it_t (show b2 false = 0 from rfl), ca_s (e_bad 1), rz_0]
        · rw [it_f (show ¬ b2 true = 0 by decide), gI_e, it_t t6, ca_s (e_bad 1), rz_0]
      rw [z2]
      exact (st_bh w4 (fun q => en (K4.end.mpr q)) bh).trans (if_pos rfl))
end SI
