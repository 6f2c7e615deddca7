/-! a line, all lines -/
section LL
variable {X Y X1 Y1 X0 Y0 : X_} {n p : Nat} {D : m_V} {N : m_L} {S : Nat → Int32} {M : Nat → Int64} {hx hy lx ly : Int32}
theorem rz_ca {f : RM Int32} {v : Int32} (h : f X = some (v, X1)) (hv : v = 0 ∨ v = 1) : (ca f fun v => rz v) X = some (v, X1) := by
  rw [ca_s h]; exact rz_e hv
theorem LE.w {f g f' g' : RM Int32} (h : LE X0 Y0 n p X Y f g) (hf : ∀ v Z, (v = 0 ∨ v = 1) → f X = some (v, Z) → f' X = some (v, Z)) (hg : ∀ v Z, (v = 0 ∨ v = 1) → g Y = some (v, Z) → g' Y = some (v, Z)) : LE X0 Y0 n p X Y f' g' := by
  obtain ⟨v, X1, Y1, h1, h2, h3⟩ := h
  have hv : v = 0 ∨ v = 1 := by
    rcases h3 with h | h
    · exact Or.inl h.1
    · exact Or.inr h.1
  exact ⟨v, X1, Y1, hf v X1 hv h1, hg v Y1 hv h2, h3⟩
theorem L3.w {f g f' g' : RM Int32} (h : L3 X0 Y0 X Y f g) (hf : ∀ v Z, (v = 0 ∨ v = 1) → f X = some (v, Z) → f' X = some (v, Z)) (hg : ∀ v Z, (v = 0 ∨ v = 1) → g Y = some (v, Z) → g' Y = some (v, Z)) : L3 X0 Y0 X Y f' g' := by
  obtain ⟨X1, Y1, h1, h2, h3⟩ := h
  exact ⟨X1, Y1, hf 0 X1 (Or.inl rfl) h1, hg 1 Y1 (Or.inr rfl) h2, h3⟩
/-- the word at the head of a line -/
theorem key_ne {k j : Nat} {v : Int32} (h : v = nI k) (hk : k < 32) (hj : j < 32) (hkj : ¬ k = j) : ¬ v = nI j := fun z => hkj ((nI_eq (by omega) (by omega)).mp (h.symm.trans z))
theorem it_bb {α : Type} {b : Bool} {A B : RM α} {Z : X_} : it (b2 b = 0) A B Z = if b = true then B Z else A Z := by
  cases b
  · rfl
  · rfl
theorem e_readLine (K : TK X Y) : fX12_readLine Y = if X.1 1 8 = nI 0 then (ca fX12_readSection fun v21 => (rz v21)) Y else if X.1 1 8 = nI 1 then (ca fX12_readPoints fun v20 => (rz v20)) Y else if X.1 1 8 = nI 2 then (ca fX12_readTrack fun v19 => (rz v19)) Y else if X.1 1 8 = nI 3 then (ca fX12_readSignal fun v18 => (rz v18)) Y else if X.1 1 8 = nI 4 then (ca fX12_readRoute fun v17 => (rz v17)) Y else if X.1 1 8 = nI 8 then (ca fX12_readOver fun v16 => (rz v16)) Y else if X.1 1 8 = nI 5 then (ca fX12_readLock fun v15 => (rz v15)) Y else if X.1 1 8 = nI 6 then (ca fX12_readTrain fun v14 => (rz v14)) Y else if X.1 1 8 = nI 7 then (gI 218 20 fun v10 => (it (v10 = 0) (pI 218 20 1 (ca fX12_next fun _ => (ca (fX12_puts 7 1 30) fun v11 => (rz v11)))) (ca (fX12_bad 3) fun v12 => (rz v12)))) Y else some (0, wY Y 1) := by
  obtain ⟨w0, w1, w2, w3, w4, w5, w6, w7, w8⟩ := kw_8
  unfold fX12_readLine
  have step : ∀ (k : Nat) (c : Int64) (A B : RM Int32), k < 32 → c = c8 (kwds.getD k []) → (ca (fX12_isWord c) fun v => (it (v = 0) A B)) Y = if X.1 1 8 = nI k then B Y else A Y := fun k c A B hk hc => by
    rw [ca_s (e_isWord K hk hc), it_bb]
    exact if_iff decide_eq_true_iff
  rw [step 0 _ _ _ (by decide) w0.symm, step 1 _ _ _ (by decide) w1.symm, step 2 _ _ _ (by decide) w2.symm, step 3 _ _ _ (by decide) w3.symm, step 4 _ _ _ (by decide) w4.symm, step 8 _ _ _ (by decide) w8.symm, step 5 _ _ _ (by decide) w5.symm, step 6 _ _ _ (by decide) w6.symm, step 7 _ _ _ (by decide) w7.symm, ca_s (e_bad 1), rz_0]
theorem k_readLine : fX6_readLine X = if X.1 1 8 = nI 0 then (ca fX6_readSection fun v => (rz v)) X else if X.1 1 8 = nI 1 then (ca fX6_readPoints fun v => (rz v)) X else if X.1 1 8 = nI 2 then (ca fX6_readTrack fun v => (rz v)) X else if X.1 1 8 = nI 3 then (ca fX6_readSignal fun v => (rz v)) X else if X.1 1 8 = nI 4 then (ca fX6_readRoute fun v => (rz v)) X else if X.1 1 8 = nI 5 then (ca fX6_readLock fun v => (rz v)) X else if X.1 1 8 = nI 6 then (ca fX6_readTrain fun v => (rz v)) X else if X.1 1 8 = nI 7 then (ca fX6_readHold fun v => (rz v)) X else if X.1 1 8 = nI 8 then (ca fX6_readOver fun v => (rz v)) X else some (0, wX X 1) := by
  have e : (ca (fX10_wrong 1) fun v11 => (rz v11)) X = some (0, wX X 1) := by rw [ca_s (e_wrong 1), rz_0]
  rw [← e]
  rfl
theorem r_line (h : LR X0 Y0 n p X Y) : LE X0 Y0 n p X Y fX6_readLine fX12_readLine ∨ L3 X0 Y0 X Y fX6_readLine fX12_readLine := by
  have K := h.2.1
  have hc := k_readLine (X := X)
  have hr := e_readLine K
  have go : ∀ {f g : RM Int32}, fX6_readLine X = (ca f fun v => (rz v)) X → fX12_readLine Y = (ca g fun v => (rz v)) Y → LE X0 Y0 n p X Y f g → LE X0 Y0 n p X Y fX6_readLine fX12_readLine := fun e1 e2 h => h.w (fun v Z hv e => e1.trans (rz_ca e hv)) (fun v Z hv e => e2.trans (rz_ca e hv))
  have ne : ∀ {k j : Nat}, X.1 1 8 = nI k → k < 32 → j < 32 → ¬ k = j → ¬ X.1 1 8 = nI j := fun e a b d => key_ne e a b d
  by_cases k0 : X.1 1 8 = nI 0
  · rw [if_pos k0] at hc hr
    exact Or.inl (go hc hr (r_readSection h))
  rw [if_neg k0] at hc hr
  by_cases k1 : X.1 1 8 = nI 1
  · rw [if_pos k1] at hc hr
    exact Or.inl (go hc hr (r_readPoints h))
  rw [if_neg k1] at hc hr
  by_cases k2 : X.1 1 8 = nI 2
  · rw [if_pos k2] at hc hr
    rcases r_readTrack h with e | e
    · exact Or.inl (go hc hr e)
    · exact Or.inr (e.w (fun v Z hv e => hc.trans (rz_ca e hv)) (fun v Z hv e => hr.trans (rz_ca e hv)))
  rw [if_neg k2] at hc hr
  by_cases k3 : X.1 1 8 = nI 3
  · rw [if_pos k3] at hc hr
    exact Or.inl (go hc hr (r_readSignal h))
  rw [if_neg k3] at hc hr
  by_cases k4 : X.1 1 8 = nI 4
  · rw [if_pos k4] at hc hr
    exact Or.inl (go hc hr (r_readRoute h))
  rw [if_neg k4] at hc hr
  by_cases k8 : X.1 1 8 = nI 8
  · rw [if_neg (ne k8 (by decide) (by decide) (by decide)), if_neg (ne k8 (by decide) (by decide) (by decide)), if_neg (ne k8 (by decide) (by decide) (by decide)), if_pos k8] at hc
    rw [if_pos k8] at hr
    exact Or.inl (go hc hr (r_readOver h))
  rw [if_neg k8] at hr
  by_cases k5 : X.1 1 8 = nI 5
  · rw [if_pos k5] at hc hr
    exact Or.inl (go hc hr (r_readLock h))
  rw [if_neg k5] at hc hr
  by_cases k6 : X.1 1 8 = nI 6
  · rw [if_pos k6] at hc hr
    exact Or.inl (go hc hr (r_readTrain h))
  rw [if_neg k6] at hc hr
  by_cases k7 : X.1 1 8 = nI 7
  · rw [if_pos k7] at hc hr
    exact Or.inl ((r_readHold h).w (fun v Z hv e => hc.trans (rz_ca e hv)) (fun v Z hv e => hr.trans e))
  rw [if_neg k7] at hc hr
  rw [if_neg k8] at hc
  exact Or.inl (LE.bad hc hr (h.ms.fail (FL.w K.1)))
theorem MS.x1 (h : MS X0 Y0 n p D N S M hx hy lx ly X Y) (v : Int32) : MS X0 Y0 n p D N S M hx hy v ly (sI X 25 1 v) Y := by
  obtain ⟨⟨hB, hB9, hB15⟩, hF, hG, ⟨h1, h2⟩, h3, ⟨h5, h6⟩, h7, h8⟩ := h
  exact ⟨⟨hB.x (sI_row (by omega)) (sI_row (by omega)) rfl, by rw [sI_ne (by omega)]; exact hB9, hB15⟩, hF.i (by omega), hG, ⟨by rw [← h1]; exact bB_same (fun a h1 _ => sI_row (by omega)), h2⟩, h3, ⟨by rw [sI_ne (by omega)]; exact h5, h6⟩, sI_eq, h8⟩
theorem MS.y19 (h : MS X0 Y0 n p D N S M hx hy lx ly X Y) (v : Int32) : MS X0 Y0 n p D N S M hx hy lx v X (sI Y 218 19 v) := by
  obtain ⟨⟨hB, hB9, hB15⟩, hF, hG, h1, ⟨h3, h4⟩, ⟨h5, h6⟩, h7, h8⟩ := h
  exact ⟨⟨hB.y (sI_ne (by omega)) (sI_ne (by omega)) (sI_ne (by omega)) (sI_row (by decide)) rfl, hB9, by rw [sI_ne (by omega)]; exact hB15⟩, hF, hG.i (by omega), h1, ⟨by rw [sI_row (by decide)]; exact h3, h4⟩, ⟨h5, by rw [sI_ne (by omega)]; exact h6⟩, h7, sI_eq⟩
theorem TK.end (h : TK X Y) : X.1 1 4 = 0 ↔ Y.1 218 11 = 0 := by
  rcases h.2 with ⟨a, b, c⟩ | ⟨w, -, a, b, -⟩ | ⟨k, -, a, b, -, -, c⟩ | ⟨k, -, a, b, -, -, c⟩ | ⟨a, b, c⟩
  · rw [a, b]
  · rw [a, b]
  · rw [a, b]
  · rw [a, b]
  · rw [a]
    rcases b with b | ⟨b, -⟩
    · rw [b]
    · rw [b]; decide
/-- how a reading of lines ends -/
def LZ (X0 Y0 : X_) (n : Nat) (o : Option (Int32 × X_)) (u : Option (Int32 × X_)) (E : RM Int32) (F : RM Int32) : Prop := (∃ X1 Y1, o = some (0, X1) ∧ u = some ((-1) - Y1.1 218 16, Y1) ∧ LX X0 Y0 X1 Y1) ∨ ∃ X1 Y1 p', o = E X1 ∧ u = F Y1 ∧ LR X0 Y0 n p' X1 Y1 ∧ ∃ l, l ≤ 1400 ∧ X1.1 25 1 = nI l
noncomputable def kLC (E : RM Int32) : Nat → RM Int32 := (lz0 (fun L28 => (gI 1 4 fun v1 => (it (v1 = 0) E (gI 25 1 fun v2 => (it (1400 < v2) E (ca fX6_readLine fun v3 => (it (v3 = 0) (re 0) (ca (fX10_mustBe 59) fun v4 => (it (v4 = 0) (re 0) (gI 25 1 fun v5 => (pI 25 1 (v5 + 1) (ca fX10_next fun _ => L28)))))))))))))
def kLR (F : RM Int32) : Nat → RM Int32 := (lz0 (fun L35 => (gI 218 11 fun v1 => (it (v1 = 0) F (ca fX12_readLine fun v10 => (it (v10 = 0) (gI 218 16 fun v11 => (re ((-1) - v11))) (ca (fX12_sign 59) fun v12 => (it (v12 = 0) (gI 218 16 fun v14 => (re ((-1) - v14))) (gI 218 19 fun v13 => (pI 218 19 (v13 + 1) L35))))))))))
theorem kLC_s {E : RM Int32} {f : Nat} : kLC E (f + 1) = (gI 1 4 fun v1 => (it (v1 = 0) E (gI 25 1 fun v2 => (it (1400 < v2) E (ca fX6_readLine fun v3 => (it (v3 = 0) (re 0) (ca (fX10_mustBe 59) fun v4 => (it (v4 = 0) (re 0) (gI 25 1 fun v5 => (pI 25 1 (v5 + 1) (ca fX10_next fun _ => kLC E f))))))))))) := rfl
theorem kLR_s {F : RM Int32} {f : Nat} : kLR F (f + 1) = (gI 218 11 fun v1 => (it (v1 = 0) F (ca fX12_readLine fun v10 => (it (v10 = 0) (gI 218 16 fun v11 => (re ((-1) - v11))) (ca (fX12_sign 59) fun v12 => (it (v12 = 0) (gI 218 16 fun v14 => (re ((-1) - v14))) (gI 218 19 fun v13 => (pI 218 19 (v13 + 1) (kLR F f))))))))) := rfl
theorem r_lines_step (E F : RM Int32) (m fc fr : Nat) (X Y : X_) (p l : Nat) (h : LR X0 Y0 n p X Y) (hm : n - p ≤ m) (hfc : m < fc) (hfr : m < fr) (hl1 : X.1 25 1 = nI l) (hl2 : l ≤ p) (hl3 : l ≤ 1400)
    (ih : ∀ m', m' + 1 = m → ∀ fc fr X Y p l, LR X0 Y0 n p X Y → n - p ≤ m' → m' < fc → m' < fr → X.1 25 1 = nI l → l ≤ p → l ≤ 1400 → LZ X0 Y0 n (kLC E fc X) (kLR F fr Y) E F) : LZ X0 Y0 n (kLC E fc X) (kLR F fr Y) E F := by
  obtain ⟨fc, rfl⟩ : ∃ g, fc = g + 1 := ⟨fc - 1, by omega⟩
  obtain ⟨fr, rfl⟩ : ∃ g, fr = g + 1 := ⟨fr - 1, by omega⟩
  have K := h.2.1
  have pn := h.1.1.2.2.1
  rw [kLC_s, kLR_s, gI_e, gI_e]
  by_cases e : X.1 1 4 = 0
  · rw [it_t e, it_t (K.end.mp e)]
    exact Or.inr ⟨X, Y, p, rfl, rfl, h, l, hl3, hl1⟩
  · rw [it_f e, it_f (fun z => e (K.end.mpr z)), gI_e, hl1, it_f (show ¬ 1400 < nI l from fun z => absurd ((nI_ltI (a := 1400) (by decide) (by omega)).mp z) (by omega))]
    rcases r_line h with ⟨v, X1, Y1, h1, h2, h3⟩ | ⟨X1, Y1, h1, h2, hF, hG, g9, g10, g3⟩
    · rcases h3 with ⟨rfl, h3⟩ | ⟨rfl, h25, p1, h3, pp, sg⟩
      · rw [ca_s h1, it_t rfl, ca_s h2, it_t rfl]
        exact Or.inl ⟨X1, Y1, rfl, rfl, h3⟩
      · rw [ca_s h1, it_f (by decide), ca_s h2, it_f (by decide)]
        have K1 := h3.2.1
        have sgn1 := e_isSignR K1 (k0 := 59) (c := 59) rfl (Or.inl rfl)
        have mb := k_mustBe (X := X1) 59
        cases z : t_isSign (bT X1) 59
        · rw [z] at sgn1 mb
          rw [if_neg (by decide)] at mb
          rw [ca_s mb, it_t rfl, ca_s (w := 0) (X' := wY Y1 1) (by
            unfold fX12_sign
            rw [ca_s sgn1, it_t (show b2 false = 0 from rfl), ca_s (e_bad 1), rz_0]), it_t rfl]
          exact Or.inl ⟨wX X1 1, wY Y1 1, rfl, rfl, h3.ms.fail (FL.w K1.1)⟩
        · rw [z] at sgn1 mb
          rw [if_pos rfl] at mb
          obtain ⟨z4, -⟩ := of_decide_eq_true z
          obtain ⟨a, a1, a2, a3, a4⟩ := sg z4
          have h3m := h3.ms
          obtain ⟨X2, Y2, p2, n2, n2', h4, K2, -, pp2, -, -⟩ := (h3m.x1 (nI (l + 1))).next
          have l1 : X1.1 25 1 = nI l := h25.trans hl1
          have l2 : Y2.1 218 19 = nI l := by rw [h4.2.2.2.2.2.2.2, ← h3.2.2.2.2.2.2, l1]
          have h5 := h4.y19 (nI (l + 1))
          have h6 := h5.done (K2.y (by rw [sI_ne (by decide)]) (by rw [sI_ne (by decide)]) (by rw [sI_ne (by decide)]) rfl) (h3.2.2.2.2.1.p pp2) h3.2.2.2.2.2.1.1 h3.2.2.2.2.2.1.2 rfl
          have sg2 : fX12_sign 59 Y1 = some (1, Y2) := by
            unfold fX12_sign
            rw [ca_s sgn1, it_f (show ¬ b2 true = 0 by decide), ca_s n2']; rfl
          rw [ca_s mb, it_f (by decide), gI_e, pI_e, l1, nI_1, ca_s n2, ca_s sg2, it_f (by decide), gI_e, l2, nI_1, pI_e]
          have p1n := h3.1.1.2.2.1
          have p2n := h6.1.1.2.2.1
          exact ih (m - 1) (by omega) fc fr X2 (sI Y2 218 19 (nI (l + 1))) p2 (l + 1) h6 (by omega) (by omega) (by omega) h4.2.2.2.2.2.2.1 (by omega) (by omega)
    · rw [ca_s h1, it_t rfl, ca_s h2, it_f (by decide), ca_s (w := 0) (X' := wY Y1 1) (by
        unfold fX12_sign
        rw [ca_s g3, it_t rfl, ca_s (e_bad 1), rz_0]), it_t rfl]
      refine Or.inl ⟨X1, wY Y1 1, rfl, rfl, hF, hG.g (gS.w _ _), ?_, ?_⟩
      · rw [g9]
        show 1 = (sI (sI Y1 218 15 1) 218 16 (Y1.1 218 12)).1 218 15
        rw [sI_ne (by decide), sI_eq]
      · rw [g10]
        show _ = (sI (sI Y1 218 15 1) 218 16 (Y1.1 218 12)).1 218 16
        rw [sI_eq]
theorem r_lines (E F : RM Int32) : ∀ m fc fr X Y p l, LR X0 Y0 n p X Y → n - p ≤ m → m < fc → m < fr → X.1 25 1 = nI l → l ≤ p → l ≤ 1400 → LZ X0 Y0 n (kLC E fc X) (kLR F fr Y) E F := by
  intro m
  induction m with
  | zero =>
    intro fc fr X Y p l h hm hfc hfr hl1 hl2 hl3
    exact r_lines_step E F 0 fc fr X Y p l h hm hfc hfr hl1 hl2 hl3 (fun m' hm' => by omega)
  | succ m ih =>
    intro fc fr X Y p l h hm hfc hfr hl1 hl2 hl3
    exact r_lines_step E F (m + 1) fc fr X Y p l h hm hfc hfr hl1 hl2 hl3 (fun m' hm' fc fr X Y p l h hm hfc hfr a b c => ih fc fr X Y p l h (by omega) (by omega) (by omega) a b c)
end LL
