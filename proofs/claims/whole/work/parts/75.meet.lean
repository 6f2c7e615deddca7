/-! meet, odds: both -/
section ME
variable {P V W : m_V} {X : X_}
def sub6 (V W : m_V) : Prop := ∀ i, bt (V 0 6) i = true → bt (W 0 6) i = true
theorem sub6.of (h : W 0 6 = V 0 6) : sub6 V W := fun i q => by rw [h]; exact q
theorem sub6.trans {U : m_V} (h : sub6 V W) (h2 : sub6 W U) : sub6 V U := fun i q => h2 i (h i q)
theorem sub6.lo {f : Nat → m_V → m_V} (hf : ∀ i W, sub6 W (f i W)) : ∀ n, sub6 V (lo f n V) := by
  intro n
  induction n with
  | zero => exact sub6.of rfl
  | succ n ih => exact ih.trans (hf n _)
theorem lor_sup (q : Nat → Prop) [DecidablePred q] (a : Int32) (i : Nat) (h : bt a i = true) : ∀ n, bt (lo (fun k a => if q k then a ||| (1 <<< (nI k &&& 31)) else a) n a) i = true := by
  intro n
  induction n with
  | zero => exact h
  | succ n ih =>
    rw [lo]
    split
    · rw [b_or, ih]; rfl
    · exact ih
theorem sub6.crash (t : Nat) (c : Int32) : sub6 V (s_crashV P V t c) := by
  intro i q
  have : s_crashV P V t c 0 6 = s_cr P V t c := by
    unfold s_crashV
    rw [u2_ne (by omega), u2_eq]
  rw [this]
  exact lor_sup (fun k => V 4 k = c) _ i (by rw [b_or, q]; rfl) _
theorem sub6.enterV (t : Nat) (c : Int32) : sub6 V (s_enterV P V t c) := by
  unfold s_enterV
  refine sub6.trans ?_ (sub6.lo (fun r W => ?_) _)
  · unfold s_ent1
    by_cases q : (if c = -1 then (-1 : Int32) else s_leastTrainIn P V c (nI t)) = -1
    · rw [if_pos q]; exact sub6.of (by rw [u2_ne (by omega), u2_ne (by omega)])
    · rw [if_neg q]
      exact (sub6.of (W := u2 (u2 V 4 t c) 5 t 0) (by rw [u2_ne (by omega), u2_ne (by omega)])).trans (sub6.crash t c)
  · split
    · exact sub6.of (by rw [u2_ne (by omega)])
    · exact sub6.of rfl
theorem sub6.turn (t : Nat) : sub6 V (s_turn P t V) := by
  unfold s_turn
  split
  · exact sub6.of rfl
  · unfold s_runV
    have h1 : sub6 V (u2 V 5 t (V 5 t + 1)) := sub6.of (by rw [u2_ne (by omega)])
    split
    · unfold s_moveV
      have h2 : sub6 (u2 V 5 t (V 5 t + 1)) (s_goalV P (u2 V 5 t (V 5 t + 1)) t) := by
        refine sub6.of ?_
        unfold s_goalV
        split
        · rfl
        · unfold s_gbsV
          split
          · rfl
          · rw [u2_ne (by omega), u2_ne (by omega)]
      split
      · exact (h1.trans h2).trans (sub6.of (by rw [u2_ne (by omega), u2_ne (by omega)]))
      · exact (h1.trans h2).trans (sub6.enterV t _)
    · exact h1
theorem sub6.tick (P V : m_V) : sub6 V (s_tickV P V) := by
  rw [tick_eq]
  refine sub6.trans (sub6.of (W := u2 V 0 7 0) (by rw [u2_ne (by omega)])) ?_
  refine (sub6.lo (f := s_turn P) (fun t W => sub6.turn t) (ct P 6)).trans ?_
  refine (sub6.lo (f := s_down) (fun r W => ?_) (ct P 4)).trans (sub6.of (by rw [u2_ne (by omega)]))
  refine sub6.of ?_
  unfold s_down
  split
  · split
    · rw [u2_ne (by omega)]
    · rw [u2_ne (by omega), u2_ne (by omega)]
  · rfl
theorem sub6.T (P V : m_V) : ∀ n, sub6 V (T_ P V n) := by
  intro n
  induction n with
  | zero => exact sub6.of rfl
  | succ n ih => exact ih.trans (sub6.tick P (T_ P V n))
theorem sub_eq {x y : Int32} (h : ∀ i, bt x i = true → bt y i = true) : (y &&& (x ^^^ -1) = 0) ↔ y = x := by
  constructor
  · intro e
    refine b_ext (fun i hi => ?_)
    have := b_and0.mp e i hi
    rw [b_not hi] at this
    have h2 := h i
    cases e1 : bt x i <;> cases e2 : bt y i <;> simp_all
  · intro e
    rw [e, b_and0]
    intro i hi
    rw [b_not hi]
    cases bt x i <;> simp
theorem sim_meet : Sim fX11_meet fX12_meet := fun X hX => by
  have w := hX.w
  have ok := w.ok
  unfold fX11_meet fX12_meet
  obtain ⟨X1, r1, t1, v1⟩ := k_try X
  have hT0 : wfN (bP X 4) (bV X1 54) := v1.wfN ok w.v
  have hTn := T_wf w.l hT0
  have h06 : bV X1 54 0 6 = bV X 47 0 6 := v1.1 6 (by omega) (by omega)
  have hsub : ∀ n i, bt (bV X 47 0 6) i = true → bt (T_ (bP X 4) (bV X1 54) n 0 6) i = true := fun n i q => sub6.T (bP X 4) (bV X1 54) n i (by rw [h06]; exact q)
  rw [ca_s r1]
  have comp : ∃ X', (lz1 (fun L13 x1 => (it (300 < x1) (re (-1)) (ca (fX8_passOne 54) fun _ => (gI 54 6 fun v2 => (gI 47 6 fun v3 => (it (v2 = v3) (L13 (x1 + 1)) (re x1))))))) FU (nI 1)) X1 = some (ff (fun j => decide (¬ T_ (bP X 4) (bV X1 54) j 0 6 = bV X 47 0 6)) 1 300, X') ∧ tri X X' := by
    refine lz1_post (n := 301) (fun i Y => 1 ≤ i ∧ tri X Y ∧ bV Y 54 = T_ (bP X 4) (bV X1 54) (i - 1) ∧ ∀ j, 1 ≤ j → j < i → decide (¬ T_ (bP X 4) (bV X1 54) j 0 6 = bV X 47 0 6) = false) (fun o => ∃ X', o = some (ff (fun j => decide (¬ T_ (bP X 4) (bV X1 54) j 0 6 = bV X 47 0 6)) 1 300, X') ∧ tri X X') (fun Y L hI => ?_) (fun i Y L hi hI ih => ?_) 300 1 FU X1 (by decide) (by rw [FU_eq]; decide) ⟨by omega, t1, rfl, fun j h1 hj => by omega⟩
    · rw [it_t (show (300 : Int32) < nI 301 by decide), re_e]
      refine ⟨Y, ?_, hI.2.1⟩
      rw [(ff_m1 300 1 (by decide)).mpr (fun j h1 hj => hI.2.2.2 j h1 (by omega))]
    · obtain ⟨Z, z1, z2, z3⟩ := hI.2.1.tick w.l (hTn (i - 1)) hI.2.2.1
      have z3' : bV Z 54 = T_ (bP X 4) (bV X1 54) i := by
        obtain ⟨k, rfl⟩ : ∃ k, i = k + 1 := ⟨i - 1, by have := hI.1; omega⟩
        exact z3
      have e1 : Z.1 54 6 = T_ (bP X 4) (bV X1 54) i 0 6 := by rw [← z3']; rfl
      have e2 : Z.1 47 6 = bV X 47 0 6 := by rw [z2.1 47 (by omega)]; rfl
      rw [it_f (nL_lt (by omega) (by decide)), ca_s z1, gI_e, gI_e, e1, e2]
      by_cases q : T_ (bP X 4) (bV X1 54) i 0 6 = bV X 47 0 6
      · rw [it_t q, nI_1]
        refine ih Z ⟨by omega, z2, z3', fun j h1 hj => ?_⟩
        by_cases e : j = i
        · subst e; exact decide_eq_false (by simp [q])
        · exact hI.2.2.2 j h1 (by omega)
      · rw [it_f q, re_e]
        refine ⟨Z, ?_, z2⟩
        rw [ff_first 300 1 i hI.1 (by omega) (fun j h1 hj => hI.2.2.2 j h1 hj) (decide_eq_true q)]
  obtain ⟨X', g1, g2⟩ := comp
  have e220 : (sI X' 218 0 0).1 220 = X.1 220 := by rw [sI_row (by decide), g2.1 220 (by omega)]
  let Y0 : X_ := setR (sI X' 218 0 0) 226 (cpN 0 62 (fun i => X.1 220 (226 + i)) ((sI X' 218 0 0).1 226))
  have y226 : Y0.1 226 = cpN 0 62 (fun i => X.1 220 (226 + i)) ((sI X' 218 0 0).1 226) := setR_eq
  have y0 : rowS Y0 (X.1 220) = Y0 := by
    have : Y0.1 220 = X.1 220 := by
      show (setR (sI X' 218 0 0) 226 _).1 220 = _
      rw [setR_ne (by decide), e220]
    rw [← this]; exact rowS_self
  refine ⟨_, X', Y0, g1, ?_, inv_try' hX g2⟩
  rw [pI_e, ca_s (e_try e220), e_rAl (by decide), w.s.1.cr]
  have key : ∀ o, o = (lz2 (fun L22 x2 x3 => (it (300 < x3) (ca fX12_brings fun _ => (re x2)) (it (0 ≤ x2) (ca fX12_brings fun _ => (re x2)) (ca fX12_tick fun v4 => (rA 220 469 281 fun v5 => (it ((v5 &&& (bV X 47 0 6 ^^^ (-1))) = 0) (L22 x2 (x3 + 1)) (L22 x3 (x3 + 1)))))))) FU (-1) (nI 1)) (rowS Y0 (X.1 220)) → o = some (ff (fun j => decide (¬ T_ (bP X 4) (bV X1 54) j 0 6 = bV X 47 0 6)) 1 300, rowS Y0 (X.1 220)) := by
    intro o ho
    rw [ho]
    refine lz2_post (n := 302) (fun i x Y => 1 ≤ i ∧ ∃ S', Y = rowS Y0 S' ∧ fr (X.1 220) S' ∧ ((x = -1 ∧ i ≤ 301 ∧ RW (bP X 4) (T_ (bP X 4) (bV X1 54) (i - 1)) S' ∧ ∀ j, 1 ≤ j → j < i → decide (¬ T_ (bP X 4) (bV X1 54) j 0 6 = bV X 47 0 6) = false) ∨ (0 ≤ x ∧ x = ff (fun j => decide (¬ T_ (bP X 4) (bV X1 54) j 0 6 = bV X 47 0 6)) 1 300))) (fun o => o = some (ff (fun j => decide (¬ T_ (bP X 4) (bV X1 54) j 0 6 = bV X 47 0 6)) 1 300, rowS Y0 (X.1 220))) (fun x Y L hI => ?_) (fun i x Y L hi hI ih => ?_) 301 1 FU (-1) (rowS Y0 (X.1 220)) (by decide) (by rw [FU_eq]; decide) ⟨by omega, X.1 220, rfl, fr.refl, Or.inl ⟨rfl, by omega, v1.RW ok w.s, fun j _ hj => by omega⟩⟩
    · obtain ⟨-, S', rfl, hf, hc⟩ := hI
      rw [it_t (show (300 : Int32) < nI 302 by decide), ca_s (e_bring hf y226)]
      rcases hc with ⟨-, z, -⟩ | ⟨-, z⟩
      · omega
      · rw [z]; rfl
    · obtain ⟨i1, S', rfl, hf, hc⟩ := hI
      rcases hc with ⟨rfl, z1, z2, z3⟩ | ⟨z1, z2⟩
      · by_cases q3 : i = 301
        · subst q3
          rw [it_t (show (300 : Int32) < nI 301 by decide), ca_s (e_bring hf y226), (ff_m1 300 1 (by decide)).mpr (fun j h1 hj => z3 j h1 (by omega))]
          rfl
        · obtain ⟨v, S2, k1, k2, k3⟩ := e_tick (X := Y0) (w.r.fr w.l hf) w.l (hTn (i - 1)) z2
          have k2' : RW (bP X 4) (T_ (bP X 4) (bV X1 54) i) S2 := by
            obtain ⟨k, rfl⟩ : ∃ k, i = k + 1 := ⟨i - 1, by omega⟩
            exact eqV.trim.RW ok k2
          rw [it_f (nL_lt (by omega) (by decide)), it_f (show ¬ (0 : Int32) ≤ -1 by decide), ca_s k1, e_rAl (by decide), k2'.1.cr]
          by_cases q : T_ (bP X 4) (bV X1 54) i 0 6 = bV X 47 0 6
          · rw [it_t ((sub_eq (hsub i)).mpr q), nI_1]
            refine ih _ _ ⟨by omega, S2, rfl, hf.trans k3, Or.inl ⟨rfl, by omega, k2', fun j h1 hj => ?_⟩⟩
            by_cases e : j = i
            · subst e; exact decide_eq_false (by simp [q])
            · exact z3 j h1 (by omega)
          · rw [it_f (fun e => q ((sub_eq (hsub i)).mp e)), nI_1]
            have e := ff_first (p := fun j => decide (¬ T_ (bP X 4) (bV X1 54) j 0 6 = bV X 47 0 6)) 300 1 i i1 (by omega) (fun j h1 hj => z3 j h1 hj) (decide_eq_true q)
            exact ih _ _ ⟨by omega, S2, rfl, hf.trans k3, Or.inr ⟨nI_pos' (by omega), e.symm⟩⟩
      · by_cases q3 : (300 : Int32) < nI i
        · rw [it_t q3, ca_s (e_bring hf y226), z2]; rfl
        · rw [it_f q3, it_t z1, ca_s (e_bring hf y226), z2]; rfl
  have := key _ rfl
  rw [y0] at this
  rw [show rowS (setR (sI X' 218 0 0) 226 (cpN 0 62 (fun i => X.1 220 (226 + i)) ((sI X' 218 0 0).1 226))) (X.1 220) = Y0 from y0]
  exact this
/-- the trial, seed by seed -/
def U_ (P V U0 : m_V) (x : Int32) : Nat → m_V
  | 0 => U0
  | i + 1 => trim 7 (s_dr P 40 (x + nI i) (trim 7 (s_copy V (U_ P V U0 x i)))).2
def T2 (P V U0 : m_V) (x : Int32) (i : Nat) : m_V := trim 7 (s_copy V (U_ P V U0 x i))
theorem T2_eq (P V U0 : m_V) (x : Int32) (i : Nat) : eqV V (T2 P V U0 x i) := (eqV.copy _ _).trans eqV.trim
def hit (P V U0 : m_V) (x : Int32) (i : Nat) (a : Int32) : Int32 := if (s_dr P 40 (x + nI i) (T2 P V U0 x i)).2 0 2 ≤ V 0 2 then a else a + 1
theorem sim_odds (a b : Int32) : Sim (fX11_odds a b) (fX12_odds a b) := fun X hX => by
  have w := hX.w
  have ok := w.ok
  unfold fX11_odds fX12_odds
  by_cases c : 1 ≤ a ∧ a ≤ 30
  · obtain ⟨n, h0, h30, rfl⟩ := in60 (N := 30) (by decide) c
    rw [it_f (show ¬ nI n < 1 by rw [lt_nle]; exact fun e => e c.1), it_t c.2]
    have comp : ∃ X', (lz2 (fun L18 x1 x2 => (it (nI n ≤ x2) (re x1) (ca (fX8_copyFrom 54 47) fun _ => (ca (fX8_passDrawn 54 40 (b + x2)) fun v3 => (gI 54 2 fun v4 => (gI 47 2 fun v5 => (it (v4 ≤ v5) (L18 x1 (x2 + 1)) (L18 (x1 + 1) (x2 + 1))))))))) FU 0 (nI 0)) X = some (lo (hit (bP X 4) (bV X 47) (bV X 54) b) n 0, X') ∧ tri X X' := by
      refine lz2_post (n := n) (fun i x Y => tri X Y ∧ bV Y 54 = U_ (bP X 4) (bV X 47) (bV X 54) b i ∧ x = lo (hit (bP X 4) (bV X 47) (bV X 54) b) i 0) (fun o => ∃ X', o = some (lo (hit (bP X 4) (bV X 47) (bV X 54) b) n 0, X') ∧ tri X X') (fun x Y L hI => ?_) (fun i x Y L hi hI ih => ?_) n 0 FU 0 X (by omega) (by rw [FU_eq]; omega) ⟨⟨fun _ _ => rfl, rfl⟩, rfl, rfl⟩
      · rw [it_t (nI_le (Nat.le_refl _) (by omega)), hI.2.2]
        exact ⟨Y, rfl, hI.1⟩
      · obtain ⟨t1, t2, rfl⟩ := hI
        have cf : fX8_copyFrom 54 47 Y = some ((), bk Y 54 7 (s_copy (bV Y 47) (bV Y 54)) (bVJ Y 54)) := gd_t (Or.inl (by decide))
        rw [t1.V, t2] at cf
        have eT : bV (bk Y 54 7 (s_copy (bV X 47) (U_ (bP X 4) (bV X 47) (bV X 54) b i)) (bVJ Y 54)) 54 = T2 (bP X 4) (bV X 47) (bV X 54) b i := bB_bk
        have tY : tri X (bk Y 54 7 (s_copy (bV X 47) (U_ (bP X 4) (bV X 47) (bV X 54) b i)) (bVJ Y 54)) := ⟨fun a ha => by rw [bk_row (by omega)]; exact t1.1 a ha, by rw [← t1.2]; exact Prod.ext bkJ_self rfl⟩
        generalize bk Y 54 7 (s_copy (bV X 47) (U_ (bP X 4) (bV X 47) (bV X 54) b i)) (bVJ Y 54) = Y1 at cf eT tY
        have hT := (T2_eq (bP X 4) (bV X 47) (bV X 54) b i).wfN ok w.v
        have pd : fX8_passDrawn 54 40 (b + nI i) Y1 = some (nI (s_dr (bP X 4) 40 (b + nI i) (T2 (bP X 4) (bV X 47) (bV X 54) b i)).1, bk Y1 54 7 (s_dr (bP X 4) 40 (b + nI i) (T2 (bP X 4) (bV X 47) (bV X 54) b i)).2 (bVJ Y1 54)) := by
          unfold fX8_passDrawn
          rw [gd_t, tY.P, eT]
          · rfl
          · rw [tY.P, eT]
            exact ⟨rfl, wfP_of w.l, okS_of w.l hT, by decide⟩
        have e1 : (bk Y1 54 7 (s_dr (bP X 4) 40 (b + nI i) (T2 (bP X 4) (bV X 47) (bV X 54) b i)).2 (bVJ Y1 54)).1 54 2 = (s_dr (bP X 4) 40 (b + nI i) (T2 (bP X 4) (bV X 47) (bV X 54) b i)).2 0 2 := by rw [bk_in0 (by decide)]
        have e2 : (bk Y1 54 7 (s_dr (bP X 4) 40 (b + nI i) (T2 (bP X 4) (bV X 47) (bV X 54) b i)).2 (bVJ Y1 54)).1 47 2 = bV X 47 0 2 := by rw [bk_row (by omega), tY.1 47 (by omega)]; rfl
        have e3 : bV (bk Y1 54 7 (s_dr (bP X 4) 40 (b + nI i) (T2 (bP X 4) (bV X 47) (bV X 54) b i)).2 (bVJ Y1 54)) 54 = U_ (bP X 4) (bV X 47) (bV X 54) b (i + 1) := bB_bk
        have t3 : tri X (bk Y1 54 7 (s_dr (bP X 4) 40 (b + nI i) (T2 (bP X 4) (bV X 47) (bV X 54) b i)).2 (bVJ Y1 54)) := ⟨fun a ha => by rw [bk_row (by omega)]; exact tY.1 a ha, by rw [← tY.2]; exact Prod.ext bkJ_self rfl⟩
        rw [it_f (nI_ge hi (by omega)), ca_s cf, ca_s pd, gI_e, gI_e, e1, e2, nI_1]
        have hs : lo (hit (bP X 4) (bV X 47) (bV X 54) b) (i + 1) 0 = hit (bP X 4) (bV X 47) (bV X 54) b i (lo (hit (bP X 4) (bV X 47) (bV X 54) b) i 0) := rfl
        unfold hit at hs
        by_cases q : (s_dr (bP X 4) 40 (b + nI i) (T2 (bP X 4) (bV X 47) (bV X 54) b i)).2 0 2 ≤ bV X 47 0 2
        · rw [it_t q]
          rw [if_pos q] at hs
          exact ih _ _ ⟨t3, e3, hs.symm⟩
        · rw [it_f q]
          rw [if_neg q] at hs
          exact ih _ _ ⟨t3, e3, hs.symm⟩
    obtain ⟨X', g1, g2⟩ := comp
    have e220 : (sI X' 218 0 0).1 220 = X.1 220 := by rw [sI_row (by decide), g2.1 220 (by omega)]
    let Y0 : X_ := setR (sI X' 218 0 0) 226 (cpN 0 62 (fun i => X.1 220 (226 + i)) ((sI X' 218 0 0).1 226))
    have y226 : ∀ z, (sI Y0 218 37 z).1 226 = cpN 0 62 (fun i => X.1 220 (226 + i)) ((sI X' 218 0 0).1 226) := fun z => by rw [sI_row (by decide)]; exact setR_eq
    have y0 : ∀ z, rowS (sI Y0 218 37 z) (X.1 220) = sI Y0 218 37 z := fun z => by
      have : (sI Y0 218 37 z).1 220 = X.1 220 := by
        rw [sI_row (by decide)]
        show (setR (sI X' 218 0 0) 226 _).1 220 = _
        rw [setR_ne (by decide), e220]
      rw [← this]; exact rowS_self
    have ref : ∃ z, (lz2 (fun L36 x3 x4 => (it (nI n ≤ x4) (re x3) (ca (fX12_draws 40 (b + x4)) fun v5 => (rA 220 469 227 fun v6 => (it (v6 ≤ bV X 47 0 2) (ca fX12_brings fun _ => (L36 (x3 + 0) (x4 + 1))) (ca fX12_brings fun _ => (L36 (x3 + 1) (x4 + 1)))))))) FU 0 (nI 0)) (rowS Y0 (X.1 220)) = some (lo (hit (bP X 4) (bV X 47) (bV X 54) b) n 0, rowS (sI Y0 218 37 z) (X.1 220)) := by
      have hself : sI Y0 218 37 (Y0.1 218 37) = Y0 := by
        refine Prod.ext (funext fun q => funext fun k => ?_) rfl
        by_cases c1 : q = 218 ∧ k = 37
        · obtain ⟨rfl, rfl⟩ := c1; rw [sI_eq]
        · rw [sI_ne c1]
      refine lz2_post (n := n) (fun i x Y => (∃ z, Y = rowS (sI Y0 218 37 z) (X.1 220)) ∧ x = lo (hit (bP X 4) (bV X 47) (bV X 54) b) i 0) (fun o => ∃ z, o = some (lo (hit (bP X 4) (bV X 47) (bV X 54) b) n 0, rowS (sI Y0 218 37 z) (X.1 220))) (fun x Y L hI => ?_) (fun i x Y L hi hI ih => ?_) n 0 FU 0 (rowS Y0 (X.1 220)) (by omega) (by rw [FU_eq]; omega) ⟨⟨Y0.1 218 37, by rw [hself]⟩, rfl⟩
      · obtain ⟨⟨z, rfl⟩, rfl⟩ := hI
        rw [it_t (nI_le (Nat.le_refl _) (by omega))]
        exact ⟨z, rfl⟩
      · obtain ⟨⟨z, rfl⟩, rfl⟩ := hI
        have hT := (T2_eq (bP X 4) (bV X 47) (bV X 54) b i).wfN ok w.v
        obtain ⟨z2, S', p1, p2, p3, p4⟩ := e_draws (X := sI Y0 218 37 z) w.l 40 (by decide) (b + nI i) w.r hT ((T2_eq (bP X 4) (bV X 47) (bV X 54) b i).RW ok w.s)
        rw [sI_sI] at p1
        rw [it_f (nI_ge hi (by omega)), ca_s (show fX12_draws 40 (b + nI i) _ = _ from p1), e_rAl (by decide), p2.1.met, nI_1]
        have hs : lo (hit (bP X 4) (bV X 47) (bV X 54) b) (i + 1) 0 = hit (bP X 4) (bV X 47) (bV X 54) b i (lo (hit (bP X 4) (bV X 47) (bV X 54) b) i 0) := rfl
        unfold hit at hs
        by_cases q : (s_dr (bP X 4) 40 (b + nI i) (T2 (bP X 4) (bV X 47) (bV X 54) b i)).2 0 2 ≤ bV X 47 0 2
        · rw [it_t q, ca_s (e_bring p3 (y226 z2))]
          rw [if_pos q] at hs
          exact ih _ _ ⟨⟨z2, rfl⟩, (Int32.add_zero _).trans hs.symm⟩
        · rw [it_f q, ca_s (e_bring p3 (y226 z2))]
          rw [if_neg q] at hs
          exact ih _ _ ⟨⟨z2, rfl⟩, hs.symm⟩
    obtain ⟨z, hz⟩ := ref
    refine ⟨_, X', sI Y0 218 37 z, g1, ?_, inv_try hX g2⟩
    rw [pI_e, ca_s (e_isIn _ _ _), it_f (bz_t c), ca_s (e_try e220), e_rAl (by decide), w.s.1.met]
    rw [y0 z] at hz
    exact hz
  · refine ⟨-1, X, sI X 218 0 0, ?_, ?_, hX.thrown⟩
    · by_cases c1 : a < 1
      · rw [it_t c1]; rfl
      · rw [it_f c1, it_f (fun e => c ⟨by rw [lt_nle] at c1; exact Classical.byContradiction c1, e⟩)]; rfl
    · rw [pI_e, ca_s (e_isIn _ _ _), it_t (bz_f c)]
      rfl
end ME
