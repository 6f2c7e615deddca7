/-! comes, meet, odds: both -/
section CM
variable {X : X_}
theorem ff_first {p : Nat → Bool} : ∀ (n i k : Nat), i ≤ k → k < i + n → (∀ j, i ≤ j → j < k → p j = false) → p k = true → ff p i n = nI k := by
  intro n
  induction n with
  | zero => intro i k h1 h2; omega
  | succ n ih =>
    intro i k h1 h2 h3 h4
    rw [ff]
    by_cases c : i = k
    · subst c; rw [if_pos h4]
    · rw [if_neg (by rw [h3 i (Nat.le_refl _) (by omega)]; decide)]
      exact ih (i + 1) k (by omega) (by omega) (fun j a b => h3 j (by omega) b) h4
/-- what would go on, in the trial's own words -/
def T_ (P V : m_V) : Nat → m_V
  | 0 => V
  | n + 1 => trim 7 (s_tickV P (T_ P V n))
theorem T_wf {P V : m_V} (wL : wfL P) (h : wfN P V) : ∀ n, wfN P (T_ P V n) := by
  intro n
  induction n with
  | zero => exact h
  | succ n ih => exact (ih.tick wL)
/-- nothing but the trial has changed -/
def tri (X Y : X_) : Prop := (∀ a, ¬ (54 ≤ a ∧ a < 61) → Y.1 a = X.1 a) ∧ Y.2 = X.2
theorem tri.P {Y : X_} (h : tri X Y) : bP Y 4 = bP X 4 := bB_same (fun a _ _ => h.1 a (by omega))
theorem tri.V {Y : X_} (h : tri X Y) : bV Y 47 = bV X 47 := bB_same (fun a _ _ => h.1 a (by omega))
theorem k_try (X : X_) : ∃ X1, fX8_copyFrom 54 47 X = some ((), X1) ∧ tri X X1 ∧ eqV (bV X 47) (bV X1 54) := by
  have e : fX8_copyFrom 54 47 X = some ((), bk X 54 7 (s_copy (bV X 47) (bV X 54)) (bVJ X 54)) := gd_t (Or.inl (by decide))
  refine ⟨_, e, ⟨fun a ha => bk_row (by omega), Prod.ext bkJ_self rfl⟩, ?_⟩
  show eqV _ (bB 7 _ _)
  rw [bB_bk]
  exact (eqV.copy _ _).trans eqV.trim
theorem tri.tick {Y : X_} {T : m_V} (h : tri X Y) (wL : wfL (bP X 4)) (hT : wfN (bP X 4) T) (e : bV Y 54 = T) : ∃ Z, fX8_passOne 54 Y = some ((), Z) ∧ tri X Z ∧ bV Z 54 = trim 7 (s_tickV (bP X 4) T) := by
  have e1 : fX8_passOne 54 Y = some ((), bk Y 54 7 (s_tickV (bP X 4) T) (bVJ Y 54)) := by
    unfold fX8_passOne
    rw [gd_t, h.P, e]
    rw [h.P, e]
    exact ⟨wfP_of wL, okS_of wL hT⟩
  refine ⟨_, e1, ⟨fun a ha => by rw [bk_row (by omega)]; exact h.1 a ha, ?_⟩, bB_bk⟩
  rw [← h.2]
  exact Prod.ext bkJ_self rfl
/-- the reference's row, brought back -/
theorem brought {S S' : Nat → Int32} {b0 : Nat → Int32} (hf : fr S S') : cpN 226 62 (cpN 0 62 (fun i => S (226 + i)) b0) S' = S := by
  funext k
  unfold cpN
  by_cases c : 226 ≤ k ∧ k < 226 + 62
  · rw [if_pos c, if_pos (by omega)]
    show S (226 + (k - 226 - 0)) = S k
    rw [show 226 + (k - 226 - 0) = k by omega]
  · rw [if_neg c]
    exact hf k (by omega)
theorem inv_try (hX : Inv X) {Y : X_} {b0 : Nat → Int32} (h : tri X Y) {z : Int32} {v : Int32} : Inv (sI (setR (sI Y 218 0 v) 226 b0) 218 37 z) := by
  have R : ∀ a, ¬ (54 ≤ a ∧ a < 61) → ¬ a = 218 → ¬ a = 226 → (sI (setR (sI Y 218 0 v) 226 b0) 218 37 z).1 a = X.1 a := fun a a1 a2 a3 => by rw [sI_row a2, setR_ne a3, sI_row a2]; exact h.1 a a1
  have F : ∀ k, ¬ k = 0 → ¬ k = 37 → (sI (setR (sI Y 218 0 v) 226 b0) 218 37 z).1 218 k = X.1 218 k := fun k k1 k2 => by rw [sI_ne (by omega), setR_ne (by decide), sI_ne (by omega), h.1 218 (by omega)]
  have hg : (sI (setR (sI Y 218 0 v) 226 b0) 218 37 z).2.2 = X.2.2 := congrArg (fun q => q.2) h.2
  have J : (sI (setR (sI Y 218 0 v) 226 b0) 218 37 z).2.1 = X.2.1 := congrArg (fun q => q.1) h.2
  refine ⟨?_, ?_, ?_, ?_, ?_, ?_, ?_, ?_, ?_, ?_⟩
  · exact hX.t.of (congrFun (by exact R _ (by omega) (by omega) (by omega)) 1) (by exact R _ (by omega) (by omega) (by omega)) (by exact F _ (by decide) (by decide)) (by exact R _ (by omega) (by omega) (by omega))
  · exact hX.k.of (by rw [J]) (by rw [J])
  · exact hX.w.of (fun a ha => by exact R _ (by omega) (by omega) (by omega)) (fun a ha => by rw [J])
  · exact hX.h.of (fun a ha => by exact R _ (by omega) (by omega) (by omega)) (by exact F _ (by decide) (by decide)) hg
  · exact hX.i.of (fun a ha => by exact R _ (by omega) (by omega) (by omega)) (fun a ha => by rw [J])
  · exact hX.b.of (by exact R _ (by omega) (by omega) (by omega)) (by exact F _ (by decide) (by decide)) (by exact R _ (by omega) (by omega) (by omega))
  · exact hX.c.of (fun a ha => by exact R _ (by omega) (by omega) (by omega)) (by exact F _ (by decide) (by decide)) (by exact F _ (by decide) (by decide))
  · exact hX.f.of (fun a ha => by exact R _ (by omega) (by omega) (by omega)) (by exact F _ (by decide) (by decide)) (by exact F _ (by decide) (by decide))
  · exact hX.g.of (fun a ha => by exact R _ (by omega) (by omega) (by omega)) (by exact F _ (by decide) (by decide))
  · exact hX.o.of (by exact R _ (by omega) (by omega) (by omega)) (by exact F _ (by decide) (by decide)) (by exact F _ (by decide) (by decide)) (by exact F _ (by decide) (by decide))
theorem inv_try' (hX : Inv X) {Y : X_} {b0 : Nat → Int32} (h : tri X Y) {v : Int32} : Inv (setR (sI Y 218 0 v) 226 b0) := by
  have := inv_try hX h (b0 := b0) (v := v) (z := (setR (sI Y 218 0 v) 226 b0).1 218 37)
  have e : sI (setR (sI Y 218 0 v) 226 b0) 218 37 ((setR (sI Y 218 0 v) 226 b0).1 218 37) = setR (sI Y 218 0 v) 226 b0 := by
    refine Prod.ext (funext fun a => funext fun k => ?_) rfl
    by_cases c : a = 218 ∧ k = 37
    · obtain ⟨rfl, rfl⟩ := c; rw [sI_eq]
    · rw [sI_ne c]
  rw [e] at this
  exact this
theorem e_try {Y : X_} (h : Y.1 220 = X.1 220) : fX12_tries Y = some ((), rowS (setR Y 226 (cpN 0 62 (fun i => X.1 220 (226 + i)) (Y.1 226))) (X.1 220)) := by
  rw [e_tries, h]
  have : rowS (setR Y 226 (cpN 0 62 (fun i => X.1 220 (226 + i)) (Y.1 226))) (X.1 220) = setR Y 226 (cpN 0 62 (fun i => X.1 220 (226 + i)) (Y.1 226)) := by
    rw [← h, ← show (setR Y 226 (cpN 0 62 (fun i => Y.1 220 (226 + i)) (Y.1 226))).1 220 = Y.1 220 from setR_ne (by decide)]
    exact rowS_self
  rw [this]
theorem e_bring {Y : X_} {S' : Nat → Int32} {b0 : Nat → Int32} {S : Nat → Int32} (hf : fr S S') (h : Y.1 226 = cpN 0 62 (fun i => S (226 + i)) b0) : fX12_brings (rowS Y S') = some ((), rowS Y S) := by
  rw [e_brings, rowS_220, rowS_ne (by decide), h, brought hf, rowS_rowS]
theorem sim_comes (a b : Int32) : Sim (fX11_comes a b) (fX12_comes a b) := fun X hX => by
  have w := hX.w
  have ok := w.ok
  have h6 := ok.c6.2
  have h0 := ok.c0.2
  unfold fX11_comes fX12_comes
  rw [ca_s (k_has (by decide))]
  by_cases c : 0 ≤ a ∧ a < bP X 4 1 6
  · have c' := c
    rw [ok.c6.1] at c
    obtain ⟨t, ht, rfl⟩ := idx_of (by omega) c
    rw [it_f (bz_t c'), ca_s (k_has (by decide))]
    by_cases d : 0 ≤ b ∧ b < bP X 4 1 0
    · have d' := d
      rw [ok.c0.1] at d
      obtain ⟨s, hs, rfl⟩ := idx_of (by omega) d
      obtain ⟨X1, r1, t1, v1⟩ := k_try X
      have hT0 : wfN (bP X 4) (bV X1 54) := v1.wfN ok w.v
      have hTn := T_wf w.l hT0
      rw [it_f (bz_t d'), ca_s r1]
      have comp : ∃ X', (lz1 (fun L40 x3 => (it (300 < x3) (re (-1)) (rA (54 + 4) 5 (nI t) fun v4 => (it (v4 = nI s) (re x3) (ca (fX8_passOne 54) fun _ => (L40 (x3 + 1))))))) FU 0) X1 = some (ff (fun j => decide (T_ (bP X 4) (bV X1 54) j 4 t = nI s)) 0 301, X') ∧ tri X X' := by
        refine lz1_post (n := 301) (fun i Y => tri X Y ∧ bV Y 54 = T_ (bP X 4) (bV X1 54) i ∧ ∀ j, j < i → decide (T_ (bP X 4) (bV X1 54) j 4 t = nI s) = false) (fun o => ∃ X', o = some (ff (fun j => decide (T_ (bP X 4) (bV X1 54) j 4 t = nI s)) 0 301, X') ∧ tri X X') (fun Y L hI => ?_) (fun i Y L hi hI ih => ?_) 301 0 FU X1 (by decide) (by rw [FU_eq]; decide) ⟨t1, rfl, fun j hj => by omega⟩
        · rw [it_t (show (300 : Int32) < nI 301 by decide), re_e]
          refine ⟨Y, ?_, hI.1⟩
          rw [(ff_m1 301 0 (by decide)).mpr (fun j _ hj => hI.2.2 j (by omega))]
        · rw [it_f (nL_lt (by omega) (by decide)), k_V (by omega) (by decide) (by decide), hI.2.1]
          by_cases q : T_ (bP X 4) (bV X1 54) i 4 t = nI s
          · rw [it_t q, re_e]
            refine ⟨Y, ?_, hI.1⟩
            rw [ff_first 301 0 i (by omega) (by omega) (fun j _ hj => hI.2.2 j hj) (decide_eq_true q)]
          · obtain ⟨Z, z1, z2, z3⟩ := hI.1.tick w.l (hTn i) hI.2.1
            rw [it_f q, ca_s z1, nI_1]
            refine ih Z ⟨z2, z3, fun j hj => ?_⟩
            by_cases e : j = i
            · subst e; exact decide_eq_false q
            · exact hI.2.2 j (by omega)
      obtain ⟨X', g1, g2⟩ := comp
      have e220 : (sI X' 218 0 0).1 220 = X.1 220 := by rw [sI_row (by decide), g2.1 220 (by omega)]
      have hL : RLa (bP X 4) ((sI X' 218 0 0).1 220) := by rw [e220]; exact w.r
      let Y0 : X_ := setR (sI X' 218 0 0) 226 (cpN 0 62 (fun i => X.1 220 (226 + i)) ((sI X' 218 0 0).1 226))
      have y226 : Y0.1 226 = cpN 0 62 (fun i => X.1 220 (226 + i)) ((sI X' 218 0 0).1 226) := setR_eq
      have y0 : rowS Y0 (X.1 220) = Y0 := by
        have : Y0.1 220 = X.1 220 := by
          show (setR (sI X' 218 0 0) 226 _).1 220 = _
          rw [setR_ne (by decide), e220]
        rw [← this]; exact rowS_self
      refine ⟨_, X', Y0, g1, ?_, inv_try' hX g2⟩
      rw [pI_e, ca_s (e_isTrain hL ok _), it_f (bz_t c'), ca_s (e_isSection hL ok _), it_f (bz_t d'), ca_s (e_try e220)]
      have key : ∀ o, o = (lz2 (fun L32 x3 x4 => (it (300 < x4) (ca fX12_brings fun _ => (re x3)) (it (0 ≤ x3) (ca fX12_brings fun _ => (re x3)) (rA 220 469 (271 + nI t) fun v5 => (it (v5 = (nI s + 1)) (ca fX12_tick fun v7 => (L32 x4 (x4 + 1))) (ca fX12_tick fun v6 => (L32 x3 (x4 + 1)))))))) FU (-1) (nI 0)) (rowS Y0 (X.1 220)) → o = some (ff (fun j => decide (T_ (bP X 4) (bV X1 54) j 4 t = nI s)) 0 301, rowS Y0 (X.1 220)) := by
        intro o ho
        rw [ho]
        refine lz2_post (n := 302) (fun i x Y => ∃ S', Y = rowS Y0 S' ∧ fr (X.1 220) S' ∧ ((x = -1 ∧ i ≤ 301 ∧ RW (bP X 4) (T_ (bP X 4) (bV X1 54) i) S' ∧ ∀ j, j < i → decide (T_ (bP X 4) (bV X1 54) j 4 t = nI s) = false) ∨ (0 ≤ x ∧ x = ff (fun j => decide (T_ (bP X 4) (bV X1 54) j 4 t = nI s)) 0 301))) (fun o => o = some (ff (fun j => decide (T_ (bP X 4) (bV X1 54) j 4 t = nI s)) 0 301, rowS Y0 (X.1 220))) (fun x Y L hI => ?_) (fun i x Y L hi hI ih => ?_) 302 0 FU (-1) (rowS Y0 (X.1 220)) (by decide) (by rw [FU_eq]; decide) ⟨X.1 220, rfl, fr.refl, Or.inl ⟨rfl, by omega, v1.RW ok w.s, fun j hj => by omega⟩⟩
        · obtain ⟨S', rfl, hf, hc⟩ := hI
          rw [it_t (show (300 : Int32) < nI 302 by decide), ca_s (e_bring hf y226)]
          rcases hc with ⟨-, z, -⟩ | ⟨-, z⟩
          · omega
          · rw [z]; rfl
        · obtain ⟨S', rfl, hf, hc⟩ := hI
          rcases hc with ⟨rfl, z1, z2, z3⟩ | ⟨z1, z2⟩
          · by_cases q3 : i = 301
            · subst q3
              rw [it_t (show (300 : Int32) < nI 301 by decide), ca_s (e_bring hf y226), (ff_m1 301 0 (by decide)).mpr (fun j _ hj => z3 j (by omega))]
              rfl
            · rw [it_f (nL_lt (by omega) (by decide)), it_f (show ¬ (0 : Int32) ≤ -1 by decide), ix_la, e_rA (by omega), z2.1.at ht]
              obtain ⟨v, S2, k1, k2, k3⟩ := e_tick (X := Y0) (w.r.fr w.l hf) w.l (hTn i) z2
              have k2' : RW (bP X 4) (T_ (bP X 4) (bV X1 54) (i + 1)) S2 := eqV.trim.RW ok k2
              by_cases q : T_ (bP X 4) (bV X1 54) i 4 t = nI s
              · rw [it_t (by rw [q]), ca_s k1, nI_1]
                have e := ff_first (p := fun j => decide (T_ (bP X 4) (bV X1 54) j 4 t = nI s)) 301 0 i (by omega) (by omega) (fun j _ hj => z3 j hj) (decide_eq_true q)
                exact ih _ _ ⟨S2, rfl, hf.trans k3, Or.inr ⟨nI_pos' (by omega), e.symm⟩⟩
              · rw [it_f (fun e => q (by rwa [cp_inj] at e)), ca_s k1, nI_1]
                refine ih _ _ ⟨S2, rfl, hf.trans k3, Or.inl ⟨rfl, by omega, k2', fun j hj => ?_⟩⟩
                by_cases e : j = i
                · subst e; exact decide_eq_false q
                · exact z3 j (by omega)
          · by_cases q3 : (300 : Int32) < nI i
            · rw [it_t q3, ca_s (e_bring hf y226), z2]; rfl
            · rw [it_f q3, it_t z1, ca_s (e_bring hf y226), z2]; rfl
      have := key _ rfl
      rw [y0] at this
      rw [show rowS (setR (sI X' 218 0 0) 226 (cpN 0 62 (fun i => X.1 220 (226 + i)) ((sI X' 218 0 0).1 226))) (X.1 220) = Y0 from y0]
      exact this
    · refine ⟨-1, X, sI X 218 0 0, by rw [it_t (bz_f d)]; rfl, ?_, hX.thrown⟩
      rw [pI_e, ca_s (e_isTrain hX.L ok _), it_f (bz_t c'), ca_s (e_isSection hX.L ok _), it_t (bz_f d)]
      rfl
  · refine ⟨-1, X, sI X 218 0 0, by rw [it_t (bz_f c)]; rfl, ?_, hX.thrown⟩
    rw [pI_e, ca_s (e_isTrain hX.L ok _), it_t (bz_f c)]
    rfl
end CM
