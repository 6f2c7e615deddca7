/-! layout -/
section LY
variable {X Y X1 Y1 X0 Y0 : X_} {n p : Nat} {D : m_V} {N : m_L} {S : Nat → Int32} {M : Nat → Int64}
theorem DR_0 (h0 : ∀ k, k < 7 → D 1 k = 0) (h7 : D 1 7 = 3) (hS : ∀ k, k < 226 → S k = if k = 7 then 3 else 0) : DR 0 D N S M := by
  have cc : ∀ s, s < 7 → ct D s = 0 := fun s hs => by unfold ct; rw [h0 s hs]; rfl
  have one : ∀ s m, s < 7 → D 1 s = nI (ct D s) ∧ ct D s ≤ m := fun s m hs => by rw [cc s hs, h0 s hs]; exact ⟨rfl, Nat.zero_le _⟩
  have no : ∀ s k, s < 7 → ¬ k < ct D s := fun s k hs => by rw [cc s hs]; exact Nat.not_lt_zero k
  refine ⟨⟨⟨one 0 12 (by decide), one 1 6 (by decide), one 2 16 (by decide), one 3 8 (by decide), one 4 10 (by decide), one 6 5 (by decide)⟩, fun k hk => ?_, ⟨0, h0 5 (by decide), by decide⟩, ⟨3, h7, by decide, by decide⟩⟩, fun k hk => absurd hk (no 0 k (by decide)), fun k hk => absurd hk (no 1 k (by decide)), fun k hk => absurd hk (no 2 k (by decide)), fun k hk => absurd hk (no 3 k (by decide)), ⟨fun k hk => absurd hk (no 4 k (by decide)), fun k q hk => absurd hk (no 4 k (by decide)), fun r _ hr => ?_⟩, fun k hk => absurd hk (no 6 k (by decide))⟩
  · rw [hS k (by omega)]
    by_cases e : k = 7
    · subst e; rw [if_pos rfl, h7]
    · rw [if_neg e, h0 k (by omega)]
  · rw [hS _ (by omega), hS _ (by omega), hS _ (by omega), hS _ (by omega), if_neg (by omega), if_neg (by omega), if_neg (by omega), if_neg (by omega)]
    exact ⟨rfl, rfl, rfl, rfl⟩
theorem RLa.lt {P : m_V} {S S' : Nat → Int32} (hS : RLa P S) (w : okP P) (hR : wfR P) (e : ∀ k, k < 226 → S' k = S k) : RLa P S' := by
  have bd := w.bd
  refine ⟨fun k hk => ?_, fun k hk => ?_, fun k hk => ?_, fun k hk => ?_, fun k hk => ?_, fun r hr => ?_, fun t ht => ?_⟩
  · rw [e k (by omega)]; exact hS.1 k hk
  · rw [e _ (by omega)]; exact hS.len hk
  · rw [e _ (by omega)]; exact hS.lie hk
  · rw [e _ (by omega), e _ (by omega), e _ (by omega), e _ (by omega)]; exact hS.t k hk
  · rw [e _ (by omega), e _ (by omega)]; exact ⟨hS.g9 hk, hS.g10 hk⟩
  · obtain ⟨b1, b2, b3, b4, b5, b6⟩ := hS.r r hr
    obtain ⟨-, ⟨m, m1, m2, -⟩, -⟩ := hR r hr
    have hm : (P 12 r).toNatClampNeg = m := by rw [m1, nI_clamp (by omega)]
    rw [e _ (by omega), e _ (by omega), e _ (by omega), e _ (by omega), e _ (by omega)]
    exact ⟨b1, b2, fun k hk => by rw [e _ (by omega)]; exact b3 k hk, b4, b5, b6⟩
  · rw [e _ (by omega), e _ (by omega)]; exact ⟨hS.v19 ht, hS.v20 ht⟩
theorem e_clears : fX12_clears Y = some ((), setR Y 221 (upS (fun k => if k < 226 then 0 else Y.1 221 k) 7 3)) := by
  unfold fX12_clears
  have z0 : (fun i => setR Y 221 (fun k => if k < i then 0 else Y.1 221 k)) 0 = Y := by
    refine setR_self ?_
    funext k
    exact (if_neg (Nat.not_lt_zero k)).symm
  conv => lhs; rw [← z0]
  refine lz1_X (n := 226) (fun i => setR Y 221 (fun k => if k < i then 0 else Y.1 221 k)) (by decide) (fun i L hi => ?_) (fun L => ?_)
  · rw [it_f (nL_ge hi (by decide)), wA_n hi (by decide), setR_s, nI_1]
    congr 2
    funext k
    by_cases e : k = i
    · subst e; rw [upS_eq, if_pos (by omega)]
    · rw [upS_ne e]
      exact if_iff ⟨fun z => by omega, fun z => by omega⟩
  · rw [it_t (nL_le (by decide)), wA_l (by decide) (by decide), setR_s]; rfl
theorem plan_def : fX6_readPlan = (ca (fX10_begin 1400) fun _ => (ca (fX5_empty 26) fun _ => (pI 25 1 0 (pI 25 2 0 (ca fX10_next fun _ => kLC (ca (fX5_workOutClashes 26) fun _ => (re 1)) FU))))) := rfl
theorem layout_def : fX12_layout = (pI 218 0 0 (ca (fX12_taken 1400) fun _ => (pI 218 15 0 (pI 218 19 0 (pI 218 20 0 (ca fX12_clears fun _ => (ca fX12_next fun _ => kLR fFIN FU))))))) := rfl
/-- both take the text -/
theorem taken_TB {m : Nat} {Xa Ya : X_} (hX : Inv X) (hM : sameM X Y) (hm : m ≤ 1460) (x1 : ∀ k, ¬ k = 2 → ¬ k = 3 → ¬ k = 9 → ¬ k = 10 → Xa.1 1 k = X.1 1 k) (x2 : Xa.1 1 2 = nI m) (x3 : Xa.1 1 3 = 0) (xb : Xa.1 2 = X.1 2) (xk : Xa.2.1 3 = X.2.1 3) (y3 : Ya.1 218 3 = Y.1 218 2) (y4 : Ya.1 218 4 = 0) (y5 : Ya.1 218 5 = nI m) (yb : Ya.1 219 = Y.1 219) (yk : Ya.2.1 224 = Y.2.1 224) : ∃ n, TB Xa Ya n m 0 := by
  obtain ⟨n, n1, e1, e2, e3⟩ := hX.t
  refine ⟨n, n1, hm, Nat.zero_le _, ⟨?_, ?_⟩, ⟨x2, y5⟩, ⟨x3, y4⟩, fun k hk => ?_, fun k hk => ?_⟩
  · rw [x1 1 (by decide) (by decide) (by decide) (by decide)]; exact e1
  · rw [y3, (hM 218 (by decide)).1]; exact e2
  · rw [xb, yb, (hM 219 (by decide)).1]; exact e3 k hk
  · rw [xk, yk, (hM 224 (by decide)).2]; exact hX.k k hk
theorem lay_start (hX : Inv X) (hM : sameM X Y) : ∃ XD YD n p, (∀ E : RM Int32, (ca (fX10_begin 1400) fun _ => (ca (fX5_empty 26) fun _ => (pI 25 1 0 (pI 25 2 0 (ca fX10_next fun _ => E))))) X = E XD) ∧ (∀ F : RM Int32, (pI 218 0 0 (ca (fX12_taken 1400) fun _ => (pI 218 15 0 (pI 218 19 0 (pI 218 20 0 (ca fX12_clears fun _ => (ca fX12_next fun _ => F))))))) Y = F YD) ∧ LR X (sI (sI Y 218 0 0) 218 2 0) n p XD YD ∧ XD.1 25 1 = nI 0 := by
  have b0 : fX10_begin 1400 X = some ((), bk X 1 3 (t_begin (bT X) 1400) (bTJ X)) := rfl
  generalize hA : bk X 1 3 (t_begin (bT X) 1400) (bTJ X) = XA at b0
  have a1 : ∀ k, XA.1 1 k = t_begin (bT X) 1400 0 k := fun k => by rw [← hA]; exact congrFun (bk_in0 (by decide)) k
  have a2 : XA.1 2 = X.1 2 := by
    rw [← hA]
    refine (bk_in (b := 1) (j := 1) (by decide)).trans ?_
    funext k
    simp [t_begin, u2]; rfl
  have a3 : XA.1 3 = X.1 3 := by
    rw [← hA]
    refine (bk_in (b := 1) (j := 2) (by decide)).trans ?_
    funext k
    simp [t_begin, u2]; rfl
  have aJ : XA.2.1 = X.2.1 := by
    rw [← hA]
    funext a
    by_cases c : 1 ≤ a ∧ a < 4
    · obtain rfl | rfl | rfl : a = 1 ∨ a = 2 ∨ a = 3 := by omega
      · exact bk_inJ (b := 1) (j := 0) (by decide)
      · exact bk_inJ (b := 1) (j := 1) (by decide)
      · exact bk_inJ (b := 1) (j := 2) (by decide)
    · exact bk_rowJ (by omega)
  have ao : ∀ a, ¬ (1 ≤ a ∧ a < 4) → XA.1 a = X.1 a := fun a h => by rw [← hA]; exact bk_row (by omega)
  have ag : XA.2.2 = X.2.2 := by rw [← hA]; rfl
  have b1 : fX5_empty 26 XA = some ((), bk XA 26 21 (p_empty (bP XA 26)) (bPJ XA 26)) := rfl
  generalize hB' : bk XA 26 21 (p_empty (bP XA 26)) (bPJ XA 26) = XB at b1
  have bz : ∀ j k, 21 ≤ j → p_empty (bP XA 26) j k = 0 := fun j k hj => by
    have : ¬ j = 1 := by omega
    simp only [p_empty, u2, u1, this, false_and, if_false]
    exact if_neg (by omega)
  have bP1 : bP XB 26 = p_empty (bP XA 26) := by rw [← hB']; exact bP_bk bz
  have bo' : ∀ a, ¬ (26 ≤ a ∧ a < 47) → XB.1 a = XA.1 a := fun a h => by rw [← hB']; exact bk_row h
  have bJ : XB.2.1 = XA.2.1 := by
    rw [← hB']
    funext a
    by_cases c : 26 ≤ a ∧ a < 47
    · obtain ⟨j, rfl⟩ : ∃ j, a = 26 + j := ⟨a - 26, by omega⟩
      rw [bk_inJ (by omega)]
      funext k
      exact if_pos (by omega)
    · exact bk_rowJ c
  have bg : XB.2.2 = XA.2.2 := by rw [← hB']; rfl
  have e1 : (∀ k, k < 7 → p_empty (bP XA 26) 1 k = 0) ∧ p_empty (bP XA 26) 1 7 = 3 := by
    refine ⟨fun k hk => ?_, ?_⟩
    · unfold p_empty
      rw [u2_ne (by omega)]
      simp only [u1, if_true]
      exact if_pos (by omega)
    · exact u2_eq
  generalize hXC : sI (sI XB 25 1 0) 25 2 0 = XC
  generalize hYa : sI (sI (sI (sI (sI (sI (sI (sI Y 218 0 0) 218 3 (Y.1 218 2)) 218 2 0) 218 4 0) 218 5 1400) 218 15 0) 218 19 0) 218 20 0 = Ya
  have yf : ∀ k, ¬ k = 0 → ¬ k = 2 → ¬ k = 3 → ¬ k = 4 → ¬ k = 5 → ¬ k = 15 → ¬ k = 19 → ¬ k = 20 → Ya.1 218 k = Y.1 218 k := fun k h0 h2 h3 h4 h5 h15 h19 h20 => by
    rw [← hYa, sI_ne (by omega), sI_ne (by omega), sI_ne (by omega), sI_ne (by omega), sI_ne (by omega), sI_ne (by omega), sI_ne (by omega), sI_ne (by omega)]
  have yr : ∀ a, ¬ a = 218 → Ya.1 a = Y.1 a := fun a h => by rw [← hYa, sI_row h, sI_row h, sI_row h, sI_row h, sI_row h, sI_row h, sI_row h, sI_row h]
  have yJ : Ya.2 = Y.2 := by rw [← hYa]; rfl
  generalize hYC : setR Ya 221 (upS (fun k => if k < 226 then 0 else Ya.1 221 k) 7 3) = YC
  have cr : ∀ a, ¬ a = 221 → YC.1 a = Ya.1 a := fun a h => by rw [← hYC]; exact setR_ne h
  have c221 : YC.1 221 = upS (fun k => if k < 226 then 0 else Ya.1 221 k) 7 3 := by rw [← hYC]; exact setR_eq
  have cJ : YC.2 = Y.2 := by rw [← hYC]; exact yJ
  have xr : ∀ a, ¬ a = 25 → XC.1 a = XB.1 a := fun a h => by rw [← hXC, sI_row h, sI_row h]
  have xJ : XC.2 = XB.2 := by rw [← hXC]; rfl
  have x1r : XC.1 1 = XA.1 1 := by rw [xr 1 (by decide), bo' 1 (by omega)]
  have tb1 : ∀ k, XC.1 1 k = t_begin (bT X) 1400 0 k := fun k => by rw [x1r]; exact a1 k
  obtain ⟨n, hTB⟩ := taken_TB (m := 1400) (Xa := XC) (Ya := YC) hX hM (by decide) (fun k h2 h3 h9 h10 => by
    rw [tb1]
    unfold t_begin
    rw [u2_ne (by omega), u2_ne (by omega), u2_ne (by omega), u2_ne (by omega)]; rfl) (by
    rw [tb1]
    unfold t_begin
    rw [u2_ne (by omega), u2_ne (by omega), u2_ne (by omega), u2_eq]; rfl) (by
    rw [tb1]
    unfold t_begin
    rw [u2_ne (by omega), u2_ne (by omega), u2_eq]) (by rw [xr 2 (by decide), bo' 2 (by omega), a2]) (by rw [show XC.2.1 = XB.2.1 by rw [xJ], bJ, aJ]) (by
    rw [cr 218 (by decide), ← hYa, sI_ne (by decide), sI_ne (by decide), sI_ne (by decide), sI_ne (by decide), sI_ne (by decide), sI_ne (by decide), sI_eq]) (by
    rw [cr 218 (by decide), ← hYa, sI_ne (by decide), sI_ne (by decide), sI_ne (by decide), sI_ne (by decide), sI_eq]) (by
    rw [cr 218 (by decide), ← hYa, sI_ne (by decide), sI_ne (by decide), sI_ne (by decide), sI_eq]; rfl) (by rw [cr 219 (by decide), yr 219 (by decide)]) (by rw [show YC.2.1 = Y.2.1 by rw [cJ]])
  have hMS : MS X (sI (sI Y 218 0 0) 218 2 0) n 0 (p_empty (bP XA 26)) (bPJ XC 26) (YC.1 221) (fun j => YC.2.1 223 (41 + j)) 0 0 0 0 XC YC := by
    refine ⟨⟨hTB, ?_, ?_⟩, ⟨fun a h1 h2 => ?_, fun a h1 h2 => ?_, ?_⟩, ⟨fun a h1 h2 => ?_, fun k hk => ?_, fun a k h1 h2 => ?_, ?_⟩, ⟨?_, rfl⟩, ⟨rfl, fun _ => rfl⟩, ⟨?_, ?_⟩, ?_, ?_⟩
    · rw [tb1]
      unfold t_begin
      rw [u2_ne (by omega), u2_eq]
    · rw [cr 218 (by decide), ← hYa, sI_ne (by decide), sI_ne (by decide), sI_eq]
    · rw [xr a (by omega), bo' a (by omega)]
      by_cases c2 : a = 2
      · subst c2; exact a2
      · by_cases c3 : a = 3
        · subst c3; exact a3
        · exact ao a (by omega)
    · rw [show XC.2.1 = XB.2.1 by rw [xJ], bJ, aJ]
    · rw [show XC.2.2 = XB.2.2 by rw [xJ], bg, ag]
    · rw [cr a h2, yr a h1, sI_row h1, sI_row h1]
    · rw [cr 218 (by decide)]
      by_cases k0 : k = 0
      · subst k0
        rw [← hYa, sI_ne (by decide), sI_ne (by decide), sI_ne (by decide), sI_ne (by decide), sI_ne (by decide), sI_ne (by decide), sI_ne (by decide), sI_eq, sI_ne (by decide), sI_eq]
      · by_cases k2 : k = 2
        · subst k2
          rw [← hYa, sI_ne (by decide), sI_ne (by decide), sI_ne (by decide), sI_ne (by decide), sI_ne (by decide), sI_eq, sI_eq]
        · rw [yf k k0 k2 (by omega) (by omega) (by omega) (by omega) (by omega) (by omega), sI_ne (by omega), sI_ne (by omega)]
    · rw [show YC.2.1 = Y.2.1 by rw [cJ]]; rfl
    · rw [cJ]; rfl
    · rw [← bP1]
      exact bB_same (fun a h1 _ => xr a (by omega))
    · rw [← hXC, sI_eq]
    · rw [cr 218 (by decide), ← hYa, sI_eq]
    · rw [← hXC, sI_ne (by decide), sI_eq]
    · rw [cr 218 (by decide), ← hYa, sI_ne (by decide), sI_eq]
  obtain ⟨XD, YD, p, n1, n2, hD, K, -, -, -, -⟩ := hMS.next
  have dr : DR 0 (p_empty (bP XA 26)) (bPJ XC 26) (YC.1 221) (fun j => YC.2.1 223 (41 + j)) := DR_0 e1.1 e1.2 (fun k hk => by
    rw [c221]
    by_cases e : k = 7
    · subst e; rw [upS_eq, if_pos rfl]
    · rw [upS_ne e, if_pos hk, if_neg e])
  refine ⟨XD, YD, n, p, fun E => ?_, fun F => ?_, hD.done K (dr.p (Nat.zero_le _)) rfl (Or.inl rfl) rfl, hD.2.2.2.2.2.2.1⟩
  · rw [ca_s b0, ca_s b1, pI_e, pI_e, hXC, ca_s n1]
  · have tk : fX12_taken 1400 (sI Y 218 0 0) = some ((), sI (sI (sI (sI (sI Y 218 0 0) 218 3 (Y.1 218 2)) 218 2 0) 218 4 0) 218 5 1400) := by
      unfold fX12_taken
      rw [gI_e, sI_ne (by decide)]; rfl
    rw [pI_e, ca_s tk, pI_e, pI_e, pI_e, hYa, ca_s e_clears, hYC, ca_s n2]
theorem sim_layout : Sim fX11_layout fX12_layout := sim_mix (fun X Y hX hM => by
  obtain ⟨XD, YD, n, p, s1, s2, hLR, l0⟩ := lay_start hX hM
  have z := r_lines (ca (fX5_workOutClashes 26) fun _ => (re 1)) fFIN n FU FU XD YD p 0 hLR (by omega) (by have := hLR.1.1.1; rw [FU_eq]; omega) (by have := hLR.1.1.1; rw [FU_eq]; omega) l0 (Nat.zero_le _) (by decide)
  have p1 : fX6_readPlan X = kLC (ca (fX5_workOutClashes 26) fun _ => (re 1)) FU XD := by rw [plan_def, s1]
  have p2 : fX12_layout Y = kLR fFIN FU YD := by rw [layout_def, s2]
  have yM : ∀ a, 218 ≤ a → ¬ a = 218 → (sI (sI Y 218 0 0) 218 2 0).1 a = X.1 a := fun a h1 h2 => by rw [sI_row h2, sI_row h2]; exact (hM a h1).1
  have yJ : ∀ a, 218 ≤ a → (sI (sI Y 218 0 0) 218 2 0).2.1 a = X.2.1 a := fun a h1 => (hM a h1).2
  have yF : ∀ k, 20 < k → (sI (sI Y 218 0 0) 218 2 0).1 218 k = X.1 218 k := fun k hk => by rw [sI_ne (by omega), sI_ne (by omega), (hM 218 (by decide)).1]
  rcases z with ⟨XF, YF, z1, z2, hF, hG, e9, e10⟩ | ⟨XE, YE, p', z1, z2, hE, l, hl, hl1⟩
  · refine ⟨(-1) - YF.1 218 16, sI (sI XF 0 13 (XF.1 1 9)) 1 1 0, YF, ?_, p2.trans z2, fun a ha => ?_, ⟨fun a ha => ?_, ?_⟩, ?_⟩
    · unfold fX11_layout
      rw [ca_s (p1.trans z1), gI_e, pI_e, pI_e, it_t rfl, gI_e, sI_ne (by decide), sI_ne (by decide), e10]; rfl
    · rw [sI_row (by omega), sI_row (by omega)]
      exact ⟨hF.1 a (by omega) (by omega), hF.2.1 a (by omega) (by omega)⟩
    · refine ⟨?_, ?_⟩
      · rw [hG.1 a (by omega) (by omega), sI_row (by omega), sI_row (by omega)]
      · funext k
        rw [hG.2.2.1 a k (by omega) (by omega)]; rfl
    · exact hG.2.2.2
    · generalize hZ : mx (sI (sI XF 0 13 (XF.1 1 9)) 1 1 0) YF = Z
      have R : ∀ a, ¬ a = 0 → ¬ a = 1 → ¬ (25 ≤ a ∧ a < 47) → ¬ a = 218 → ¬ a = 221 → Z.1 a = X.1 a := fun a h0 h1 h2 h3 h4 => by
        rw [← hZ]
        by_cases c : a < 218
        · rw [mx_c c, sI_row h1, sI_row h0]; exact hF.1 a h1 h2
        · rw [mx_m (by omega), hG.1 a h3 h4, yM a (by omega) h3]
      have F : ∀ k, 20 < k → Z.1 218 k = X.1 218 k := fun k hk => by rw [← hZ, mx_m (by decide), hG.2.1 k (Or.inr hk), yF k hk]
      have J : ∀ a, ¬ a = 1 → ¬ (25 ≤ a ∧ a < 47) → ¬ a = 218 → ¬ a = 223 → Z.2.1 a = X.2.1 a := fun a h1 h2 h3 h4 => by
        rw [← hZ]
        by_cases c : a < 218
        · rw [mx_cJ c]; exact hF.2.1 a h1 h2
        · rw [mx_mJ (by omega), ← yJ a (by omega)]
          funext k
          exact hG.2.2.1 a k h3 (by omega)
      have J2 : ∀ k, k < 41 → Z.2.1 223 k = X.2.1 223 k := fun k hk => by rw [← hZ, mx_mJ (by decide), hG.2.2.1 223 k (by decide) (by omega), yJ 223 (by decide)]
      have Gh : Z.2.2 = X.2.2 := by rw [← hZ]; exact hF.2.2
      have z11 : Z.1 1 1 = 0 := by rw [← hZ, mx_c (by decide), sI_eq]
      have z2 : Z.1 218 2 = 0 := by rw [← hZ, mx_m (by decide), hG.2.1 2 (by decide), sI_eq]
      have z013 : Z.1 0 13 = Z.1 218 15 := by rw [← hZ, mx_c (by decide), mx_m (by decide), sI_row (by decide), sI_eq]; exact e9
      have z014 : Z.1 0 14 = X.1 0 14 := by rw [← hZ, mx_c (by decide), sI_row (by decide), sI_ne (by decide), hF.1 0 (by decide) (by omega)]
      refine ⟨?_, ?_, ?_, ?_, ?_, ?_, ?_, ?_, ?_, ?_⟩
      · exact ⟨0, by decide, z11, z2, fun k hk => absurd hk (Nat.not_lt_zero k)⟩
      · exact hX.k.of (by exact J _ (by omega) (by omega) (by omega) (by omega)) (by exact J _ (by omega) (by omega) (by omega) (by omega))
      · exact (by
        have e1 : bP Z 4 = bP X 4 := bB_same (fun a h1 h2 => R a (by omega) (by omega) (by omega) (by omega) (by omega))
        have e2 : bPJ Z 4 = bPJ X 4 := bL_same (fun a h1 h2 => J a (by omega) (by omega) (by omega) (by omega))
        have e3 : bV Z 47 = bV X 47 := bB_same (fun a h1 h2 => R a (by omega) (by omega) (by omega) (by omega) (by omega))
        have e4 : bQ Z 130 = bQ X 130 := bB_same (fun a h1 h2 => R a (by omega) (by omega) (by omega) (by omega) (by omega))
        unfold I_w
        rw [e1, e2, e3, e4, R 220 (by decide) (by decide) (by decide) (by decide) (by decide)]
        exact Wd.congr hX.w eqP.refl eqN.refl eqV.refl eqQ.refl (fun _ _ => rfl) J2)
      · exact hX.h.of (fun a ha => by exact R _ (by omega) (by omega) (by omega) (by omega) (by omega)) (by exact F _ (by decide)) Gh
      · exact hX.i.of (fun a ha => by exact R _ (by omega) (by omega) (by omega) (by omega) (by omega)) (fun a ha => by exact J _ (by omega) (by omega) (by omega) (by omega))
      · exact hX.b.of (by exact R _ (by omega) (by omega) (by omega) (by omega) (by omega)) (by exact F _ (by decide)) (by exact R _ (by omega) (by omega) (by omega) (by omega) (by omega))
      · exact hX.c.of (fun a ha => by exact R _ (by omega) (by omega) (by omega) (by omega) (by omega)) (by exact F _ (by decide)) (by exact F _ (by decide))
      · exact hX.f.of (fun a ha => by exact R _ (by omega) (by omega) (by omega) (by omega) (by omega)) (by exact F _ (by decide)) (by exact F _ (by decide))
      · exact hX.g.of (fun a ha => by exact R _ (by omega) (by omega) (by omega) (by omega) (by omega)) (by exact F _ (by decide))
      · exact ⟨z013, by rw [z014, F 28 (by decide), F 27 (by decide)]; exact hX.o.2⟩
  · have hEl := hE
    obtain ⟨⟨hTB, f9, f15⟩, -, hF, hG, hD, -, hln⟩ := hE
    have pn := hTB.2.2.1
    have n14 := hTB.1
    generalize hDd : bP XE 26 = D at hD
    have ok := hD.1.1
    have bd := ok.bd
    have wk : fX5_workOutClashes 26 XE = some ((), bk XE 26 21 (p_clash D (ct D 4)) (bPJ XE 26)) := by rw [← hDd]; exact gd_t (by rw [hDd]; exact ok)
    generalize hXG : bk XE 26 21 (p_clash D (ct D 4)) (bPJ XE 26) = XG at wk
    have gP : bP XG 26 = p_clash D (ct D 4) := by
      rw [← hXG]
      refine bP_bk (fun j k hj => ?_)
      rw [clash_18 j (by omega), ← hDd]
      exact if_neg (by omega)
    have gPJ : bPJ XG 26 = bPJ XE 26 := by
      rw [← hXG]
      exact bPJ_bk (fun j k hj => if_neg (by omega))
    have gr : ∀ a, ¬ (26 ≤ a ∧ a < 47) → XG.1 a = XE.1 a := fun a h => by rw [← hXG]; exact bk_row h
    have gJ' : ∀ a, ¬ (26 ≤ a ∧ a < 47) → XG.2.1 a = XE.2.1 a := fun a h => by rw [← hXG]; exact bk_rowJ h
    have gG : XG.2.2 = XE.2.2 := by rw [← hXG]; rfl
    generalize hXH : sI (sI XG 0 13 0) 1 1 0 = XH
    have hr : ∀ a, ¬ a = 0 → ¬ a = 1 → XH.1 a = XG.1 a := fun a h0 h1 => by rw [← hXH, sI_row h1, sI_row h0]
    have hJ : XH.2 = XG.2 := by rw [← hXH]; rfl
    have hP : bP XH 26 = p_clash D (ct D 4) := by rw [← gP]; exact bB_same (fun a h1 _ => hr a (by omega) (by omega))
    have hPJ : bPJ XH 26 = bPJ XE 26 := by rw [← gPJ]; exact bL_same (fun a _ _ => by rw [show XH.2.1 = XG.2.1 by rw [hJ]])
    have cp : fX5_copyFrom 4 26 XH = some ((), bk XH 4 21 (p_copy (bP XH 26) (bP XH 4)) (p_copyN (bPJ XH 26) (bPJ XH 4))) := gd_t (Or.inr (by decide))
    generalize hXI : bk XH 4 21 (p_copy (bP XH 26) (bP XH 4)) (p_copyN (bPJ XH 26) (bPJ XH 4)) = XI at cp
    have iP : bP XI 4 = trim 21 (p_copy (p_clash D (ct D 4)) (bP XH 4)) := by rw [← hXI, ← hP]; exact bB_bk
    have iPJ : bPJ XI 4 2 = p_copyN (bPJ XE 26) (bPJ XH 4) 2 := by
      rw [← hXI, ← hPJ]
      show bL 21 (bk XH 4 21 _ _) 4 2 = _
      funext k
      unfold bL
      rw [if_pos (by decide), bk_inJ (by decide)]
    have ir : ∀ a, ¬ (4 ≤ a ∧ a < 25) → XI.1 a = XH.1 a := fun a h => by rw [← hXI]; exact bk_row h
    have iJ : ∀ a, ¬ (4 ≤ a ∧ a < 25) → XI.2.1 a = XH.2.1 a := fun a h => by rw [← hXI]; exact bk_rowJ h
    have iG : XI.2.2 = XH.2.2 := by rw [← hXI]; rfl
    have stt : fX8_start 47 XI = some ((), bk XI 47 7 (s_start (bP XI 4) (bV XI 47)) (bVJ XI 47)) := rfl
    generalize hXJ : bk XI 47 7 (s_start (bP XI 4) (bV XI 47)) (bVJ XI 47) = XJ at stt
    have jV : bV XJ 47 = trim 7 (s_start (bP XI 4) (bV XI 47)) := by rw [← hXJ]; exact bB_bk
    have jr : ∀ a, ¬ (47 ≤ a ∧ a < 54) → XJ.1 a = XI.1 a := fun a h => by rw [← hXJ]; exact bk_row h
    have jJ : XJ.2.1 = XI.2.1 := by
      rw [← hXJ]
      funext a
      by_cases c : 47 ≤ a ∧ a < 54
      · obtain ⟨j, rfl⟩ : ∃ j, a = 47 + j := ⟨a - 47, by omega⟩
        rw [bk_inJ (by omega)]
        funext k
        exact if_pos (by omega)
      · exact bk_rowJ c
    have jG : XJ.2.2 = XI.2.2 := by rw [← hXJ]; rfl
    have fn := e_FIN (Y := YE) (t := ct D 6) (by omega) (by rw [hD.1.2.1 6 (by decide)]; exact ok.c6.1)
    refine ⟨YE.1 218 19, sI (sI XJ 130 0 0) 61 1 0, _, ?_, p2.trans (z2.trans fn), fun a ha => ?_, ⟨fun a ha => ?_, ?_⟩, ?_⟩
    · unfold fX11_layout
      rw [ca_s (w := 1) (X' := XG) (by rw [p1, z1, ca_s wk]; rfl), gI_e, pI_e, pI_e, gr 1 (by omega), f9, hXH, it_f (by decide), ca_s cp, ca_s stt, pI_e, pI_e, gI_e, sI_row (by decide), sI_row (by decide), jr 25 (by omega), ir 25 (by omega), hr 25 (by decide) (by decide), gr 25 (by omega), hln]; rfl
    · refine ⟨?_, ?_⟩
      · rw [sI_row (by omega), sI_row (by omega), jr a (by omega), ir a (by omega), hr a (by omega) (by omega), gr a (by omega), hF.1 a (by omega) (by omega)]
      · show XJ.2.1 a = X.2.1 a
        rw [jJ, iJ a (by omega), show XH.2.1 = XG.2.1 by rw [hJ], gJ' a (by omega), hF.2.1 a (by omega) (by omega)]
    · refine ⟨?_, ?_⟩
      · rw [sI_row (by omega), setR_ne (by omega)]
        show YE.1 a = _
        rw [hG.1 a (by omega) (by omega), sI_row (by omega), sI_row (by omega)]
      · show (setJ YE 223 _).2.1 a = _
        rw [setJ_ne (by omega)]
        funext k
        rw [hG.2.2.1 a k (by omega) (by omega)]; rfl
    · exact hG.2.2.2
    · generalize hYF : sI (setR (setJ YE 223 (finJ (YE.2.1 223))) 220 (fin2 (ct D 6) (fin1 (YE.1 221) (YE.1 220)))) 218 23 0 = YF
      have yr : ∀ a, ¬ a = 218 → ¬ a = 220 → YF.1 a = YE.1 a := fun a h1 h2 => by rw [← hYF, sI_row h1, setR_ne h2]; rfl
      have yf : ∀ k, ¬ k = 23 → YF.1 218 k = YE.1 218 k := fun k hk => by rw [← hYF, sI_ne (by omega), setR_ne (by decide)]; rfl
      have y23 : YF.1 218 23 = 0 := by rw [← hYF, sI_eq]
      have y220 : YF.1 220 = fin2 (ct D 6) (fin1 (YE.1 221) (YE.1 220)) := by rw [← hYF, sI_row (by decide), setR_eq]
      have yJn : ∀ a, ¬ a = 223 → YF.2.1 a = YE.2.1 a := fun a h => by rw [← hYF]; exact setJ_ne h
      have y223 : YF.2.1 223 = finJ (YE.2.1 223) := by rw [← hYF]; exact setJ_eq
      generalize hZ : mx (sI (sI XJ 130 0 0) 61 1 0) YF = Z
      have R : ∀ a, ¬ a = 0 → ¬ a = 1 → ¬ (4 ≤ a ∧ a < 54) → ¬ a = 61 → ¬ a = 130 → ¬ a = 218 → ¬ a = 220 → ¬ a = 221 → Z.1 a = X.1 a := fun a h0 h1 h2 h3 h4 h5 h6 h7 => by
        rw [← hZ]
        by_cases c : a < 218
        · rw [mx_c c, sI_row h3, sI_row h4, jr a (by omega), ir a (by omega), hr a h0 h1, gr a (by omega), hF.1 a h1 (by omega)]
        · rw [mx_m (by omega), yr a h5 h6, hG.1 a h5 h7, yM a (by omega) h5]
      have F : ∀ k, 23 < k → Z.1 218 k = X.1 218 k := fun k hk => by rw [← hZ, mx_m (by decide), yf k (by omega), hG.2.1 k (by omega), yF k (by omega)]
      have J : ∀ a, ¬ a = 1 → ¬ (4 ≤ a ∧ a < 47) → ¬ a = 218 → ¬ a = 223 → Z.2.1 a = X.2.1 a := fun a h1 h2 h3 h4 => by
        rw [← hZ]
        by_cases c : a < 218
        · rw [mx_cJ c]
          show XJ.2.1 a = _
          rw [jJ, iJ a (by omega), show XH.2.1 = XG.2.1 by rw [hJ], gJ' a (by omega), hF.2.1 a h1 (by omega)]
        · rw [mx_mJ (by omega), yJn a h4, ← yJ a (by omega)]
          funext k
          exact hG.2.2.1 a k h3 (by omega)
      have Gh : Z.2.2 = X.2.2 := by
        rw [← hZ]
        show XJ.2.2 = X.2.2
        rw [jG, iG, show XH.2.2 = XG.2.2 by rw [hJ], gG, hF.2.2]
      have z11 : Z.1 1 1 = 0 := by rw [← hZ, mx_c (by decide), sI_row (by decide), sI_row (by decide), jr 1 (by omega), ir 1 (by omega), ← hXH, sI_eq]
      have z2' : Z.1 218 2 = 0 := by rw [← hZ, mx_m (by decide), yf 2 (by decide), hG.2.1 2 (by decide), sI_eq]
      have z013 : Z.1 0 13 = 0 := by rw [← hZ, mx_c (by decide), sI_row (by decide), sI_row (by decide), jr 0 (by omega), ir 0 (by omega), ← hXH, sI_row (by decide), sI_eq]
      have z15 : Z.1 218 15 = 0 := by rw [← hZ, mx_m (by decide), yf 15 (by decide), f15]
      have z014 : Z.1 0 14 = X.1 0 14 := by rw [← hZ, mx_c (by decide), sI_row (by decide), sI_row (by decide), jr 0 (by omega), ir 0 (by omega), ← hXH, sI_row (by decide), sI_ne (by decide), gr 0 (by omega), hF.1 0 (by decide) (by omega)]
      have zP : bP Z 4 = trim 21 (p_copy (p_clash D (ct D 4)) (bP XH 4)) := by
        rw [← iP]
        exact bB_same (fun a h1 h2 => by rw [← hZ, mx_c (by omega), sI_row (by omega), sI_row (by omega), jr a (by omega)])
      have zPJ : bPJ Z 4 2 = p_copyN (bPJ XE 26) (bPJ XH 4) 2 := by
        rw [← iPJ]
        have : bPJ Z 4 = bPJ XI 4 := bL_same (fun a h1 h2 => by rw [← hZ, mx_cJ (by omega)]; show XJ.2.1 a = _; rw [jJ])
        rw [this]
      have zV : bV Z 47 = trim 7 (s_start (bP XI 4) (bV XI 47)) := by
        rw [← jV]
        exact bB_same (fun a h1 h2 => by rw [← hZ, mx_c (by omega), sI_row (by omega), sI_row (by omega)])
      have zQ : bQ Z 130 0 0 = 0 := by
        show (if 0 < 5 then Z.1 (130 + 0) 0 else 0) = 0
        rw [if_pos (by decide), ← hZ]
        show (mx _ _).1 130 0 = 0
        rw [mx_c (by decide), sI_row (by decide), sI_eq]
      have d18 := hD.r18 (D' := p_clash D (ct D 4)) clash_18
      obtain ⟨wL, wR, wN⟩ := d18.wf (by omega)
      have eP : eqP (p_clash D (ct D 4)) (bP Z 4) := by rw [zP]; exact eqP.copy _ _
      have ok' := eP.ok wL.ok
      have c6 : ct (bP Z 4) 6 = ct D 6 := by rw [eP.c (by decide)]; exact ct_row (clash_18 1 (by decide))
      have z220 : Z.1 220 = fin2 (ct D 6) (fin1 (YE.1 221) (YE.1 220)) := by rw [← hZ, mx_m (by decide), y220]
      have z223 : Z.2.1 223 = finJ (YE.2.1 223) := by rw [← hZ, mx_mJ (by decide), y223]
      have sl : ∀ k, k < 226 → Z.1 220 k = YE.1 221 k := fun k hk => by
        rw [z220]
        unfold fin2 fin1
        rw [if_neg (by omega), if_pos (by omega), if_pos hk]
      have vs : ∀ j k, j < 7 → bV Z 47 j k = s_start (bP XI 4) (bV XI 47) j k := fun j k hj => by rw [zV]; exact if_pos hj
      have zP' : bP Z 4 = bP XI 4 := by rw [zP, iP]
      have wd : I_w Z := by
        refine start_Wd (eP.wfL wL) (eP.wfC wL.ok (clash_C ok)) ?_ ?_ (fun k h1 h2 => ?_) (fun k hk => ?_) (fun k hk => ?_) (fun k hk => ?_) (fun k hk => ?_) (fun k h1 h2 h3 => ?_) (fun t ht => ?_) zQ
        · exact eP.RLa wL.ok wL.r (fun _ _ => rfl) (wR.lt wL.ok wL.r sl)
        · exact eP.rN wL.ok (eqN.copy _ _ _ zPJ) (fun k hk => by rw [z223]; exact if_pos hk) wN
        · rw [vs 0 k (by decide)]
          obtain rfl | rfl | rfl | rfl | rfl | rfl | rfl : k = 1 ∨ k = 2 ∨ k = 3 ∨ k = 4 ∨ k = 5 ∨ k = 6 ∨ k = 7 := by omega
          all_goals simp [s_start, u1, u2]
        · rw [vs 1 k (by decide)]
          simp [s_start, u1, u2, hk]
        · rw [vs 4 k (by decide), zP']
          simp [s_start, u1, u2, cpy, hk]
        · rw [vs 5 k (by decide)]
          simp [s_start, u1, u2, hk]
        · rw [vs 6 k (by decide)]
          simp [s_start, u1, u2, hk]
        · rw [c6] at h3
          rw [z220]
          unfold fin2 fin1
          rw [if_neg h3, if_pos h2, if_neg (by omega)]
        · rw [c6] at ht
          rw [z220]
          unfold fin2 fin1
          rw [if_pos (by omega), if_pos (by omega), if_pos (by omega), show 271 + t - 271 = t by omega, (eP.2.2.2.2.2.2.2 t (by omega)).1, clash_18 19 (by decide), (hD.2.2.2.2.2.2 t ht).2.1.1]
      refine ⟨?_, ?_, ?_, ?_, ?_, ?_, ?_, ?_, ?_, ?_⟩
      · exact ⟨0, by decide, z11, z2', fun k hk => absurd hk (Nat.not_lt_zero k)⟩
      · exact hX.k.of (by exact J _ (by omega) (by omega) (by omega) (by omega)) (by exact J _ (by omega) (by omega) (by omega) (by omega))
      · exact wd
      · exact (by
        obtain ⟨h0, -, -, -, q4, q5, -⟩ := hX.h
        refine ⟨0, by decide, ?_, ?_, by rw [Gh]; exact q4, by rw [Gh]; exact q5, fun i hi => absurd hi (Nat.not_lt_zero i)⟩
        · rw [← hZ, mx_c (by decide), sI_eq]; rfl
        · rw [← hZ, mx_m (by decide), y23]; rfl)
      · exact hX.i.of (fun a ha => by exact R _ (by omega) (by omega) (by omega) (by omega) (by omega) (by omega) (by omega) (by omega)) (fun a ha => by exact J _ (by omega) (by omega) (by omega) (by omega))
      · exact hX.b.of (by exact R _ (by omega) (by omega) (by omega) (by omega) (by omega) (by omega) (by omega) (by omega)) (by exact F _ (by decide)) (by exact R _ (by omega) (by omega) (by omega) (by omega) (by omega) (by omega) (by omega) (by omega))
      · exact hX.c.of (fun a ha => by exact R _ (by omega) (by omega) (by omega) (by omega) (by omega) (by omega) (by omega) (by omega)) (by exact F _ (by decide)) (by exact F _ (by decide))
      · exact hX.f.of (fun a ha => by exact R _ (by omega) (by omega) (by omega) (by omega) (by omega) (by omega) (by omega) (by omega)) (by exact F _ (by decide)) (by exact F _ (by decide))
      · exact hX.g.of (fun a ha => by exact R _ (by omega) (by omega) (by omega) (by omega) (by omega) (by omega) (by omega) (by omega)) (by exact F _ (by decide))
      · exact ⟨by rw [z013, z15], by rw [z014, F 28 (by decide), F 27 (by decide)]; exact hX.o.2⟩)
end LY
