/-! train and mean: both, and where they throw -/
section MN
variable {P V : m_V} {X : X_}
theorem nI_div {a b : Nat} (ha : a < 2 ^ 31) (hb : b < 2 ^ 31) (h0 : ¬ b = 0) : nI a / nI b = nI (a / b) := by
  have h1 : (nI a).toInt = a := by rw [show (nI a).toInt = ((a : Int)).bmod (2 ^ 32) from Int32.toInt_ofNat']; exact Int.bmod_eq_of_le (by omega) (by omega)
  have h2 : (nI b).toInt = b := by rw [show (nI b).toInt = ((b : Int)).bmod (2 ^ 32) from Int32.toInt_ofNat']; exact Int.bmod_eq_of_le (by omega) (by omega)
  have hq : a / b ≤ a := Nat.div_le_self a b
  refine Int32.toInt_inj.mp ?_
  rw [Int32.toInt_div, h1, h2, ← Int.ofNat_tdiv]
  generalize a / b = c at hq
  have h3 : (nI c).toInt = (c : Int) := by rw [show (nI c).toInt = ((c : Int)).bmod (2 ^ 32) from Int32.toInt_ofNat']; exact Int.bmod_eq_of_le (by omega) (by omega)
  rw [h3]
  exact Int.bmod_eq_of_le (by omega) (by omega)
theorem nI_mod {a b : Nat} (ha : a < 2 ^ 31) (hb : b < 2 ^ 31) (h0 : ¬ b = 0) : nI a - nI a / nI b * nI b = nI (a % b) := by
  have h : a / b * b ≤ a := Nat.div_mul_le_self a b
  have h2 := Nat.div_add_mod' a b
  rw [nI_div ha hb h0, ix_mm, ix_sub h]
  exact congrArg nI (by omega)
theorem nI_n0 {b : Nat} (hb : b < 2 ^ 31) (h0 : ¬ b = 0) : ¬ nI b = 0 := fun e => h0 ((nI_eq (b := 0) hb (by decide)).mp e)
/-- Euclid, as the reference has it -/
theorem e_gcd {K : Int32 → RM Int32} : ∀ m a b f, b ≤ m → m < f → a < 2 ^ 31 → b < 2 ^ 31 → lz2 (fun L46 x6 x7 => (it (x7 = 0) (K x6) (nz x7 (L46 x7 (x6 - x6 / x7 * x7))))) f (nI a) (nI b) X = K (nI (Nat.gcd a b)) X := by
  intro m
  induction m with
  | zero =>
    intro a b f h1 h2 h3 h4
    obtain ⟨f, rfl⟩ : ∃ g, f = g + 1 := ⟨f - 1, by omega⟩
    obtain rfl : b = 0 := by omega
    rw [lz2_s, it_t (show nI 0 = 0 from rfl), Nat.gcd_zero_right]
  | succ m ih =>
    intro a b f h1 h2 h3 h4
    obtain ⟨f, rfl⟩ : ∃ g, f = g + 1 := ⟨f - 1, by omega⟩
    by_cases c : b = 0
    · subst c
      rw [lz2_s, it_t (show nI 0 = 0 from rfl), Nat.gcd_zero_right]
    · have hm := Nat.mod_lt a (show 0 < b by omega)
      rw [lz2_s, it_f (nI_n0 h4 c), nz_e (nI_n0 h4 c), nI_mod h3 h4 c, ih b (a % b) f (by omega) (by omega) (by omega) (by omega), Nat.gcd_comm a b, Nat.gcd_rec b a, Nat.gcd_comm b]
theorem k_gcd : ∀ m a b f i, b ≤ m → m < f → i + m < 64 → a < 2 ^ 31 → b < 2 ^ 31 → lz3 (fun L7 x1 x2 x3 => (it (64 ≤ x3) (re x1) (it (x2 = 0) (re x1) (nz x2 (L7 x2 (x1 - x1 / x2 * x2) (x3 + 1)))))) f (nI a) (nI b) (nI i) X = some (nI (Nat.gcd a b), X) := by
  intro m
  induction m with
  | zero =>
    intro a b f i h1 h2 hi h3 h4
    obtain ⟨f, rfl⟩ : ∃ g, f = g + 1 := ⟨f - 1, by omega⟩
    obtain rfl : b = 0 := by omega
    rw [lz3_s, it_f (nL_ge (by omega) (by decide)), it_t (show nI 0 = 0 from rfl), Nat.gcd_zero_right]; rfl
  | succ m ih =>
    intro a b f i h1 h2 hi h3 h4
    obtain ⟨f, rfl⟩ : ∃ g, f = g + 1 := ⟨f - 1, by omega⟩
    by_cases c : b = 0
    · subst c
      rw [lz3_s, it_f (nL_ge (by omega) (by decide)), it_t (show nI 0 = 0 from rfl), Nat.gcd_zero_right]; rfl
    · have hm := Nat.mod_lt a (show 0 < b by omega)
      rw [lz3_s, it_f (nL_ge (by omega) (by decide)), it_f (nI_n0 h4 c), nz_e (nI_n0 h4 c), nI_mod h3 h4 c, nI_1, ih b (a % b) f (i + 1) (by omega) (by omega) (by omega) (by omega) (by omega), Nat.gcd_comm a b, Nat.gcd_rec b a, Nat.gcd_comm b]
theorem waited_n (w : okP P) (h : wfM P V) : ∃ n, n ≤ 5000 ∧ s_waitedByAll P V = nI n := by
  obtain ⟨m, -, h1, h2⟩ := h
  have c6 := w.c6.2
  have : ∀ i, i ≤ ct P 6 → ∃ n, n ≤ 1000 * i ∧ lo (fun t a => a + V 6 t) i 0 = nI n := by
    intro i
    induction i with
    | zero => intro _; exact ⟨0, Nat.le_refl _, rfl⟩
    | succ i ih =>
      intro hi
      obtain ⟨n, n1, n2⟩ := ih (by omega)
      obtain ⟨k, k1, k2⟩ := h2 i (by omega)
      exact ⟨n + k, by omega, by rw [lo, n2, k1, nI_add]⟩
  obtain ⟨n, n1, n2⟩ := this (ct P 6) (Nat.le_refl _)
  exact ⟨n, by omega, n2⟩
/-- where mean is asked for what there is -/
def okMean (X : X_) (a : Int32) : Prop := 1 ≤ ct (bP X 4) 6 ∧ (a = 0 ∨ a = 1)
theorem in01 {a : Int32} : (¬ a < 0 ∧ a ≤ 1) ↔ (a = 0 ∨ a = 1) := by
  constructor
  · intro ⟨h1, h2⟩
    obtain ⟨n, hn, rfl⟩ := idx_of (n := 2) (by decide) ⟨Int32.not_lt.mp h1, by
      rw [i32_le] at h2; rw [i32_lt]
      have e1 : (1 : Int32).toInt = 1 := by decide
      have e2 : (nI 2).toInt = 2 := by decide
      omega⟩
    have : n = 0 ∨ n = 1 := by omega
    rcases this with rfl | rfl
    · exact Or.inl rfl
    · exact Or.inr rfl
  · rintro (rfl | rfl) <;> decide
theorem sim_mean (a : Int32) (X : X_) (hX : Inv X) (h : okMean X a) : ∃ v, fX11_mean a X = some (v, X) ∧ fX12_mean a X = some (v, sI X 218 0 0) := by
  have w := hX.w
  have ok := w.ok
  have c6 := ok.c6.2
  obtain ⟨h1, h2⟩ := h
  obtain ⟨W, W1, W2⟩ := waited_n ok w.m
  have g0 : 0 < Nat.gcd W (ct (bP X 4) 6) := Nat.gcd_pos_of_pos_right _ (by omega)
  have gl : Nat.gcd W (ct (bP X 4) 6) ≤ ct (bP X 4) 6 := Nat.gcd_le_right _ (by omega)
  have hL := hX.L
  have kw : fX8_waitedByAll 47 X = some (nI W, X) := by rw [← W2]; exact gd_t ok
  have ew : fX12_waitedInAll (sI X 218 0 0) = some (nI W, sI X 218 0 0) := by rw [← W2]; exact e_waitedInAll hL ok hX.S
  have n01 := in01.mpr h2
  have gg : fX11_greatestCommon (nI W) (nI (ct (bP X 4) 6)) X = some (nI (Nat.gcd W (ct (bP X 4) 6)), X) := k_gcd (ct (bP X 4) 6) W (ct (bP X 4) 6) FU 0 (Nat.le_refl _) (by rw [FU_eq]; omega) (by omega) (by omega) (by omega)
  have h6 : ¬ nI (ct (bP X 4) 6) < 1 := by
    intro e
    have := (nI_ltI (b := 1) (by omega) (by decide)).mp e
    omega
  have e1 : (rA 220 469 6 fun v4 => (ca fX12_waitedInAll fun v5 => (lz2 (fun L46 x6 x7 => (it (x7 = 0) (it (a = 0) (ca fX12_waitedInAll fun v9 => (nz x6 (re (v9 / x6)))) (rA 220 469 6 fun v8 => (nz x6 (re (v8 / x6))))) (nz x7 (L46 x7 (x6 - x6 / x7 * x7))))) FU v4 v5))) (sI X 218 0 0) = (it (a = 0) (ca fX12_waitedInAll fun v9 => (nz (nI (Nat.gcd W (ct (bP X 4) 6))) (re (v9 / nI (Nat.gcd W (ct (bP X 4) 6)))))) (rA 220 469 6 fun v8 => (nz (nI (Nat.gcd W (ct (bP X 4) 6))) (re (v8 / nI (Nat.gcd W (ct (bP X 4) 6))))))) (sI X 218 0 0) := by
    rw [rA_l (by decide) (by decide), hL.n6 ok, ca_s ew, Nat.gcd_comm]
    by_cases c : W = 5000
    · rw [FU_eq, lz2_s, it_f (nI_n0 (by omega) (by omega)), nz_e (nI_n0 (by omega) (by omega)), nI_mod (by omega) (by omega) (by omega)]
      have hm := Nat.mod_le (ct (bP X 4) 6) W
      have := e_gcd (X := sI X 218 0 0) (K := fun x6 => it (a = 0) (ca fX12_waitedInAll fun v9 => (nz x6 (re (v9 / x6)))) (rA 220 469 6 fun v8 => (nz x6 (re (v8 / x6))))) (ct (bP X 4) 6) W (ct (bP X 4) 6 % W) 4999 (by omega) (by omega) (by omega) (by omega)
      rw [Nat.gcd_comm (ct (bP X 4) 6) W, Nat.gcd_rec W (ct (bP X 4) 6), Nat.gcd_comm (ct (bP X 4) 6 % W)]
      exact this
    · exact e_gcd (X := sI X 218 0 0) (K := fun x6 => it (a = 0) (ca fX12_waitedInAll fun v9 => (nz x6 (re (v9 / x6)))) (rA 220 469 6 fun v8 => (nz x6 (re (v8 / x6))))) W (ct (bP X 4) 6) W FU (Nat.le_refl _) (by rw [FU_eq]; omega) (by omega) (by omega)
  have hn0 := nI_n0 (b := Nat.gcd W (ct (bP X 4) 6)) (by omega) (by omega)
  have hg1 : (1 : Int32) ≤ nI (Nat.gcd W (ct (bP X 4) 6)) := (nI_leI (a := 1) (by decide) (by omega)).mpr (by omega)
  have m0 : ¬ ct (bP X 4) 6 = 0 := by omega
  have comp : fX11_mean a X = (it (a = 0) (re (nI W / nI (Nat.gcd W (ct (bP X 4) 6)))) (re (nI (ct (bP X 4) 6) / nI (Nat.gcd W (ct (bP X 4) 6))))) X := by
    unfold fX11_mean
    rw [k_Pl (by decide) (by decide) (by decide), ok.c6.1, it_f h6, it_f n01.1, it_t n01.2, ca_s kw, ca_s gg, it_t hg1]
    by_cases c : a = 0
    · rw [it_t c, it_t c, nz_e hn0]
    · rw [it_f c, it_f c, nz_e hn0]
  have refr : fX12_mean a X = (it (a = 0) (ca fX12_waitedInAll fun v9 => (nz (nI (Nat.gcd W (ct (bP X 4) 6))) (re (v9 / nI (Nat.gcd W (ct (bP X 4) 6)))))) (rA 220 469 6 fun v8 => (nz (nI (Nat.gcd W (ct (bP X 4) 6))) (re (v8 / nI (Nat.gcd W (ct (bP X 4) 6))))))) (sI X 218 0 0) := by
    unfold fX12_mean
    rw [rA_l (by decide) (by decide), w.r.n6 ok, jo1_e]
    rw [it_f (nI_n0 (by omega) m0)]
    have : fX12_isIn a 0 1 X = some (1, X) := by
      unfold fX12_isIn
      rw [it_f n01.1, it_f (Int32.not_lt.mpr n01.2)]; rfl
    rw [ca_s this, it_f (show ¬ (1 : Int32) = 0 by decide)]
    dsimp only
    rw [ca_s (show fX12_throwsIf 0 X = some (0, sI X 218 0 0) from rfl), it_t rfl]
    exact e1
  rw [comp, refr]
  by_cases c : a = 0
  · exact ⟨nI W / nI (Nat.gcd W (ct (bP X 4) 6)), it_t c, by rw [it_t c, ca_s ew, nz_e hn0]; rfl⟩
  · exact ⟨nI (ct (bP X 4) 6) / nI (Nat.gcd W (ct (bP X 4) 6)), it_f c, by rw [it_f c, rA_l (by decide) (by decide), hL.n6 ok, nz_e hn0]; rfl⟩
theorem thr_mean (a : Int32) (X : X_) (hX : Inv X) (h : ¬ okMean X a) : fX12_mean a X = some (0, sI X 218 0 1) := by
  have w := hX.w
  have ok := w.ok
  have c6 := ok.c6.2
  unfold fX12_mean
  rw [rA_l (by decide) (by decide), w.r.n6 ok, jo1_e]
  have fin : (ca (fX12_throwsIf 1) fun v3 => (it (v3 = 0) (rA 220 469 6 fun v4 => (ca fX12_waitedInAll fun v5 => (lz2 (fun L46 x6 x7 => (it (x7 = 0) (it (a = 0) (ca fX12_waitedInAll fun v9 => (nz x6 (re (v9 / x6)))) (rA 220 469 6 fun v8 => (nz x6 (re (v8 / x6))))) (nz x7 (L46 x7 (x6 - x6 / x7 * x7))))) FU v4 v5))) (re 0))) X = some (0, sI X 218 0 1) := rfl
  by_cases c : ct (bP X 4) 6 = 0
  · rw [it_t (by rw [c]; rfl)]
    exact fin
  · rw [it_f (nI_n0 (by omega) c)]
    have : fX12_isIn a 0 1 X = some (0, X) := by
      unfold fX12_isIn
      by_cases d : a < 0
      · rw [it_t d]; rfl
      · rw [it_f d]
        by_cases e : 1 < a
        · rw [it_t e]; rfl
        · exact absurd ⟨by omega, in01.mp ⟨d, Int32.not_lt.mp e⟩⟩ h
    rw [ca_s this, it_t (show (0 : Int32) = 0 from rfl)]
    exact fin
/-- where train is asked for what there is -/
def okTrain (X : X_) (a b : Int32) : Prop := (0 ≤ a ∧ a < bP X 4 1 6) ∧ (0 ≤ b ∧ b ≤ 6)
theorem sim_train (a b : Int32) (X : X_) (hX : Inv X) (h : okTrain X a b) : ∃ v, fX11_train a b X = some (v, X) ∧ fX12_train a b X = some (v, sI X 218 0 0) := by
  have w := hX.w
  have ok := w.ok
  have c6 := ok.c6.2
  obtain ⟨h1, h2⟩ := h
  have h1' := h1
  rw [ok.c6.1] at h1'
  obtain ⟨t, ht, rfl⟩ := idx_of (by omega) h1'
  have hL := hX.L
  have hS := hX.S
  obtain ⟨k, hk, rfl⟩ := idx_of (n := 7) (by decide) ⟨h2.1, by
      have h2 := h2.2
      rw [i32_le] at h2; rw [i32_lt]
      have e1 : (6 : Int32).toInt = 6 := by decide
      have e2 : (nI 7).toInt = 7 := by decide
      omega⟩
  have refr : fX12_train (nI t) (nI k) X = (it (nI k = 0) (rA 220 469 (271 + nI t) fun v4 => (re (v4 - 1))) (it (nI k = 1) (rA 220 469 (221 + nI t) fun v5 => (re v5)) (it (nI k = 2) (rA 220 469 (276 + nI t) fun v6 => (re v6)) (it (nI k = 3) (rA 220 469 281 fun v7 => (re ((v7 >>> (nI t &&& 31)) &&& 1))) (it (nI k = 4) (rA 220 469 282 fun v8 => (re ((v8 >>> (nI t &&& 31)) &&& 1))) (it (nI k = 5) (rA 220 469 (283 + nI t) fun v9 => (re v9)) (ca (fX12_usedBy (nI t)) fun v10 => (re v10)))))))) (sI X 218 0 0) := by
    unfold fX12_train
    rw [ca_s (e_isTrain w.r ok _), jo1_e, it_f (bz_t h1)]
    have : fX12_isIn (nI k) 0 6 X = some (1, X) := by
      unfold fX12_isIn
      rw [it_f (Int32.not_lt.mpr h2.1), it_f (Int32.not_lt.mpr h2.2)]; rfl
    rw [ca_s this, it_f (show ¬ (1 : Int32) = 0 by decide)]
    dsimp only
    rw [ca_s (show fX12_throwsIf 0 X = some (0, sI X 218 0 0) from rfl), it_t rfl]
  rw [refr]
  unfold fX11_train
  rw [ca_s (k_has (by decide)), it_f (bz_t h1)]
  have hs : k = 0 ∨ k = 1 ∨ k = 2 ∨ k = 3 ∨ k = 4 ∨ k = 5 ∨ k = 6 := by omega
  rcases hs with rfl | rfl | rfl | rfl | rfl | rfl | rfl
  · refine ⟨bV X 47 4 t, ?_, ?_⟩
    · rw [it_t (by decide), k_V (by omega) (by decide) (by decide)]; rfl
    · rw [it_t (by decide), ix_la, rA_n (by omega) (by decide), hS.at ht]
      show some (_, _) = _
      rw [Int32.add_sub_cancel]
  · refine ⟨bP X 4 20 t, ?_, ?_⟩
    · rw [it_f (by decide), it_t (by decide), k_P (by omega) (by decide) (by decide)]; rfl
    · rw [it_f (by decide), it_t (by decide), ix_la, rA_n (by omega) (by decide), hL.v20 ht]; rfl
  · refine ⟨bV X 47 5 t, ?_, ?_⟩
    · rw [it_f (by decide), it_f (by decide), it_t (by decide), k_V (by omega) (by decide) (by decide)]; rfl
    · rw [it_f (by decide), it_f (by decide), it_t (by decide), ix_la, rA_n (by omega) (by decide), hS.st ht]; rfl
  · refine ⟨b2 (bt (bV X 47 0 6) t), ?_, ?_⟩
    · rw [it_f (by decide), it_f (by decide), it_f (by decide), it_t (by decide), gI_e, b_tst (by omega)]; rfl
    · rw [it_f (by decide), it_f (by decide), it_f (by decide), it_t (by decide), rA_l (by decide) (by decide), hS.cr, b_tst (by omega)]; rfl
  · refine ⟨b2 (bt (bV X 47 0 7) t), ?_, ?_⟩
    · rw [it_f (by decide), it_f (by decide), it_f (by decide), it_f (by decide), it_t (by decide), gI_e, b_tst (by omega)]; rfl
    · rw [it_f (by decide), it_f (by decide), it_f (by decide), it_f (by decide), it_t (by decide), rA_l (by decide) (by decide), hX.S7, b_tst (by omega)]; rfl
  · refine ⟨bV X 47 6 t, ?_, ?_⟩
    · rw [it_f (by decide), it_f (by decide), it_f (by decide), it_f (by decide), it_f (by decide), it_t (by decide), k_V (by omega) (by decide) (by decide)]; rfl
    · rw [it_f (by decide), it_f (by decide), it_f (by decide), it_f (by decide), it_f (by decide), it_t (by decide), ix_la, rA_n (by omega) (by decide), hS.wd ht]; rfl
  · refine ⟨s_routesUsedBy (bP X 4) (bV X 47) (nI t), ?_, ?_⟩
    · rw [it_f (by decide), it_f (by decide), it_f (by decide), it_f (by decide), it_f (by decide), it_f (by decide), it_t (by decide), ca_s (k_usedBy hX)]; rfl
    · rw [it_f (by decide), it_f (by decide), it_f (by decide), it_f (by decide), it_f (by decide), it_f (by decide), ca_s (e_usedBy hL ok hS (by omega))]; rfl
theorem thr_train (a b : Int32) (X : X_) (hX : Inv X) (h : ¬ okTrain X a b) : fX12_train a b X = some (0, sI X 218 0 1) := by
  have w := hX.w
  have ok := w.ok
  unfold fX12_train
  rw [ca_s (e_isTrain w.r ok _), jo1_e]
  by_cases c : 0 ≤ a ∧ a < bP X 4 1 6
  · rw [it_f (bz_t c)]
    have : fX12_isIn b 0 6 X = some (0, X) := by
      unfold fX12_isIn
      by_cases d : b < 0
      · rw [it_t d]; rfl
      · rw [it_f d]
        by_cases e : 6 < b
        · rw [it_t e]; rfl
        · exact absurd ⟨c, Int32.not_lt.mp d, Int32.not_lt.mp e⟩ h
    rw [ca_s this, it_t (show (0 : Int32) = 0 from rfl)]
    rfl
  · rw [it_t (bz_f c)]
    rfl
end MN
