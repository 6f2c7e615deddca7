/-! the path: both -/
section PW
variable {P V : m_V} {X : X_}
/-- the first j of a path, in a row -/
def rP (π : Nat → Nat) (j : Nat) (f : Nat → Int32) : Nat → Int32 := fun i => if i < j then nI (π i) else f i
theorem rP_0 {π : Nat → Nat} {f : Nat → Int32} : rP π 0 f = f := funext fun i => if_neg (Nat.not_lt_zero i)
theorem rP_s {π : Nat → Nat} {j : Nat} {f : Nat → Int32} : upS (rP π j f) j (nI (π j)) = rP π (j + 1) f := by
  funext i
  unfold rP
  by_cases e : i = j
  · subst e; rw [upS_eq, if_pos (by omega)]
  · rw [upS_ne e]
    by_cases d : i < j
    · rw [if_pos d, if_pos (by omega)]
    · rw [if_neg d, if_neg (by omega)]
/-- a way along the routes: π the routes, σ the sections -/
def way (P : m_V) (w : Int32) (τ : Nat) (δ : Nat → Nat) (k : Nat) (π σ : Nat → Nat) : Prop := ∀ j, j < k → σ j < 12 ∧ δ (σ j) = k - j ∧ π j < ct P 4 ∧ sel P w τ δ (σ j) (k - j) (π j) = true ∧ (∀ q, q < π j → sel P w τ δ (σ j) (k - j) q = false) ∧ σ (j + 1) = pe P (π j)
theorem way_ex {δ : Nat → Nat} (wL : wfL P) {w : Int32} {τ : Nat} (h : DN (pa P w) (ph P τ) (ps P) (pe P) (ct P 4) 100 δ) : ∀ k s, s < 12 → δ s = k → (0 < k → rc (pa P w) (ph P τ) (ps P) (pe P) (ct P 4) (δ s) s = true) → ∃ π σ, σ 0 = s ∧ way P w τ δ k π σ := by
  have c0 := wL.ok.c0.2
  intro k
  induction k with
  | zero => intro s _ _ _; exact ⟨fun _ => 0, fun _ => s, rfl, fun j hj => absurd hj (Nat.not_lt_zero j)⟩
  | succ k ih =>
    intro s hs e hrc
    obtain ⟨r, r1, r2, r3, r4⟩ := h.next _ _ _ _ _ (hrc (by omega))
    have ex : ∃ r, r < ct P 4 ∧ sel P w τ δ s (k + 1) r = true := ⟨r, r1, by unfold sel; rw [r2, decide_eq_true r3, decide_eq_true (by rw [r4, e])]; rfl⟩
    obtain ⟨q, q1, q2, q3⟩ := least (p := sel P w τ δ s (k + 1)) _ ex
    have qs := q2
    unfold sel at qs
    simp only [Bool.and_eq_true, decide_eq_true_eq] at qs
    obtain ⟨qa, -, qc⟩ := qs
    have h12 : ¬ P 12 q ≤ 0 := by
      unfold pa at qa
      rw [Bool.and_eq_true] at qa
      exact of_decide_eq_true qa.2
    obtain ⟨m, -, -, -, -, e2, -⟩ := pl_e wL q1 h12
    have rest : ∃ π σ, σ 0 = pe P q ∧ way P w τ δ k π σ := by
      by_cases z : k = 0
      · subst z; exact ⟨fun _ => 0, fun _ => pe P q, rfl, fun j hj => absurd hj (Nat.not_lt_zero j)⟩
      · have dd : δ (pe P q) = k := by
          unfold cst at qc
          by_cases t : ph P τ q = true
          · rw [if_pos t] at qc; omega
          · rw [if_neg t] at qc; omega
        refine ih (pe P q) (by omega) dd (fun _ => ?_)
        have hs := (h.1 s)
        refine (h.1 (pe P q)).2.resolve_left (fun y => ?_)
        omega
    obtain ⟨π, σ, s0, hw⟩ := rest
    refine ⟨fun j => if j = 0 then q else π (j - 1), fun j => if j = 0 then s else σ (j - 1), rfl, fun j hj => ?_⟩
    by_cases z : j = 0
    · subst z
      exact ⟨hs, e, q1, q2, q3, s0⟩
    · obtain ⟨a1, a2, a3, a4, a5, a6⟩ := hw (j - 1) (by omega)
      rw [show k - (j - 1) = k + 1 - j by omega] at a2 a4 a5
      rw [show j - 1 + 1 = j by omega] at a6
      dsimp only
      rw [if_neg z, if_neg z, if_neg (show ¬ j + 1 = 0 by omega), Nat.add_sub_cancel]
      exact ⟨a1, a2, a3, a4, a5, a6⟩
theorem sel_h12 {w : Int32} {τ s k r : Nat} {δ : Nat → Nat} (h : sel P w τ δ s k r = true) : ¬ P 12 r ≤ 0 := by
  unfold sel pa at h
  simp only [Bool.and_eq_true, decide_eq_true_eq] at h
  exact h.1.2
theorem k_walk {δ : Nat → Nat} {f : Nat → Int32} (hP : bP X 4 = P) (wL : wfL P) (hD : X.1 144 = rD δ f) (hδ : ∀ s, δ s ≤ 100) {τ k : Nat} (hτ : τ < 32) (hk : k ≤ 10) (w : Int32) {π σ : Nat → Nat} (h0 : σ 0 < 12) (hd : δ (σ 0) = k) (hw : way P w τ δ k π σ) : fX1_walk (nI (σ 0)) w (nI τ) X = some ((), putR X 143 141 3 (rP π k (X.1 143), k)) := by
  have e0 : sI X 141 3 0 = putR X 143 141 3 (rP π 0 (X.1 143), 0) := by
    rw [rP_0]
    unfold putR
    rw [setR_self rfl]
    rfl
  have hP' : ∀ s, bP (putR X 143 141 3 s) 4 = P := fun s => by rw [← hP]; exact bB_same (fun a h1 h2 => putR_ne (by omega) (by omega))
  have hD' : ∀ s, (putR X 143 141 3 s).1 144 = rD δ f := fun s => by rw [putR_ne (by decide) (by decide)]; exact hD
  unfold fX1_walk
  rw [pI_e, e0, rA_n h0 (by decide), hD', rD_in h0, hd]
  have loop : ∀ m j fu, j + m = k → m < fu → lz2 (fun L17 x2 x3 => (it (x3 ≤ 0) (re ()) (gI 141 3 fun v4 => (it ((nI 10) ≤ v4) (re ()) (ca (fX1_leastStep x2 w (nI τ)) fun v5 => (it (v5 = (-1)) (re ()) (gI 141 3 fun v6 => (wA 143 10 v6 v5 (gI 141 3 fun v7 => (pI 141 3 (v7 + 1) (ca (fX5_endOf 4 v5) fun v8 => (L17 v8 (x3 + (-1)))))))))))))) fu (nI (σ j)) (nI m) (putR X 143 141 3 (rP π j (X.1 143), j)) = some ((), putR X 143 141 3 (rP π k (X.1 143), k)) := by
    intro m
    induction m with
    | zero =>
      intro j fu hj hf
      obtain ⟨fu, rfl⟩ : ∃ g, fu = g + 1 := ⟨fu - 1, by omega⟩
      obtain rfl : j = k := by omega
      rw [lz2_s, it_t (show nI 0 ≤ 0 by decide)]; rfl
    | succ m ih =>
      intro j fu hj hf
      obtain ⟨fu, rfl⟩ : ∃ g, fu = g + 1 := ⟨fu - 1, by omega⟩
      obtain ⟨a1, a2, a3, a4, a5, a6⟩ := hw j (by omega)
      rw [← a2] at a4 a5
      have c4 := wL.ok.c4.2
      have m0 : ¬ nI (m + 1) ≤ 0 := fun z => by have := (nI_leI (b := 0) (by omega) (by decide)).mp z; omega
      obtain ⟨_, -, -, -, -, -, ee⟩ := pl_e wL a3 (sel_h12 a4)
      rw [lz2_s, it_f m0, gI_e, putR_ck, it_f (nI_ge (by omega) (by decide)), ca_s (k_least1 (hP' _) wL (hD' _) hδ a1 hτ w a3 a4 a5), it_f (nI_m1 (by omega)), gI_e, putR_ck, wA_n (by omega) (by decide), gI_e, sI_ne (by omega), putR_ck, pI_e, nI_1, putR_put (by decide), ca_s (k_endOf (hP' _) wL a3), ee, nI_dec (by omega), Nat.add_sub_cancel]
      show lz2 _ fu (nI (pe P (π j))) (nI m) (putR X 143 141 3 (upS (rP π j (X.1 143)) j (nI (π j)), j + 1)) = _
      rw [rP_s, ← a6]
      exact ih (j + 1) fu (by omega) (by omega)
  exact loop k 0 FU (by omega) (by rw [FU_eq]; omega)
theorem e_walk {ε : Nat → Nat} {f : Nat → Int32} (hL : RLa P (X.1 220)) (wL : wfL P) (hD : X.1 229 = rD ε f) (hε : ∀ s, ε s ≤ 1000000) {τ k : Nat} (hτ : τ < 32) (hk : k ≤ 10) (w : Int32) {π σ : Nat → Nat} (hw : ∀ j, j < k → σ j < 12 ∧ π j < ct P 4 ∧ sel P w τ ε (σ j) (k - j) (π j) = true ∧ (∀ q, q < π j → sel P w τ ε (σ j) (k - j) q = false) ∧ σ (j + 1) = pe P (π j)) : (lz2 (fun L104 x7 x8 => (it (nI k ≤ x8) (re (nI k)) (lz1 (fun L114 x9 => (ca (fX12_isFrom x9 x7 w) fun v10 => (it (v10 = 0) (L114 (x9 + 1)) (ca (fX12_wantsBy x9 (nI τ)) fun v11 => (it (v11 = (nI k - x8)) (wA 230 12 x8 x9 (ca (fX12_endOf x9) fun v12 => (L104 v12 (x8 + 1)))) (L114 (x9 + 1))))))) FU 0))) FU (nI (σ 0)) 0) X = some (nI k, setR X 230 (rP π k (X.1 230))) := by
  have z0 : setR X 230 (rP π 0 (X.1 230)) = X := by rw [rP_0]; exact setR_self rfl
  have := lz2_from (B := (fun L104 x7 x8 => (it (nI k ≤ x8) (re (nI k)) (lz1 (fun L114 x9 => (ca (fX12_isFrom x9 x7 w) fun v10 => (it (v10 = 0) (L114 (x9 + 1)) (ca (fX12_wantsBy x9 (nI τ)) fun v11 => (it (v11 = (nI k - x8)) (wA 230 12 x8 x9 (ca (fX12_endOf x9) fun v12 => (L104 v12 (x8 + 1)))) (L114 (x9 + 1))))))) FU 0)))) (fun j => nI (σ j)) (fun j => setR X 230 (rP π j (X.1 230))) (n := k) (E := some (nI k, setR X 230 (rP π k (X.1 230)))) (fun j L hj => ?_) (fun L => ?_) k 0 FU (by omega) (by rw [FU_eq]; omega)
  · rw [z0] at this
    exact this
  · obtain ⟨a1, a3, a4, a5, a6⟩ := hw j hj
    have hL' : ∀ D, RLa P ((setR X 230 D).1 220) := fun D => by rw [setR_ne (by decide)]; exact hL
    have hD' : ∀ D, (setR X 230 D).1 229 = rD ε f := fun D => by rw [setR_ne (by decide)]; exact hD
    have hL2 : ∀ Y : X_, Y.1 220 = X.1 220 → RLa P (Y.1 220) := fun Y hY => by rw [hY]; exact hL
    rw [it_f (nI_ge hj (by omega)), ix_sub (by omega), nI_1]
    refine (e_next (K := fun x9 => (wA 230 12 (nI j) x9 (ca (fX12_endOf x9) fun v12 => (L v12 (nI (j + 1)))))) (hL' _) wL (hD' _) hε a1 (show k - j < 100 by omega) hτ w a3 a4 a5).trans ?_
    rw [wA_n (by omega) (by decide), setR_s, rP_s, ca_s (e_endOf (hL' _) wL a3 (sel_h12 a4)), ← a6]
  · rw [it_t (nI_le (Nat.le_refl _) (by omega))]; rfl
/-- one reads what the other does -/
theorem sel_same {w : Int32} {τ : Nat} {δ ε : Nat → Nat} (h : ∀ s, (δ s = 100 ∧ ε s = 1000000) ∨ δ s = ε s) {s k : Nat} (hk : k ≤ 10) (r : Nat) : sel P w τ ε s k r = sel P w τ δ s k r := by
  unfold sel
  have : (cst (ph P τ) (pe P) ε r = k) ↔ (cst (ph P τ) (pe P) δ r = k) := by
    unfold cst
    by_cases t : ph P τ r = true
    · rw [if_pos t, if_pos t]
    · rw [if_neg t, if_neg t]
      rcases h (pe P r) with ⟨a, b⟩ | a
      · rw [a, b]; constructor <;> intro z <;> omega
      · rw [a]
  rw [decide_eq_decide.mpr this]
theorem sim_path (a c : Int32) : Sim (fX11_path a c) (fX12_path a c) := fun X hX => by
  have w := hX.w
  have wL := w.l
  have ok := w.ok
  have c0 := ok.c0.2
  have c4 := ok.c4.2
  have c6 := ok.c6.2
  have hL := hX.L
  have hS := hX.S
  have fin : ∀ Z : X_, (∀ q, ¬ q = 141 → ¬ q = 143 → ¬ q = 144 → ¬ q = 218 → ¬ q = 229 → ¬ q = 230 → Z.1 q = X.1 q) → (∀ q, ¬ q = 0 → ¬ q = 31 → Z.1 218 q = X.1 218 q) → Z.2 = X.2 → I_c Z → Inv Z := fun Z R F E2 hc => by
    refine ⟨?_, ?_, ?_, ?_, ?_, ?_, ?_, ?_, ?_, ?_⟩
    · exact hX.t.of (congrFun (by exact R _ (by omega) (by omega) (by omega) (by omega) (by omega) (by omega)) 1) (by exact R _ (by omega) (by omega) (by omega) (by omega) (by omega) (by omega)) (by exact F _ (by decide) (by decide)) (by exact R _ (by omega) (by omega) (by omega) (by omega) (by omega) (by omega))
    · exact hX.k.of (by rw [E2]) (by rw [E2])
    · exact hX.w.of (fun a ha => by exact R _ (by omega) (by omega) (by omega) (by omega) (by omega) (by omega)) (fun a ha => by rw [E2])
    · exact hX.h.of (fun a ha => by exact R _ (by omega) (by omega) (by omega) (by omega) (by omega) (by omega)) (by exact F _ (by decide) (by decide)) (by rw [E2])
    · exact hX.i.of (fun a ha => by exact R _ (by omega) (by omega) (by omega) (by omega) (by omega) (by omega)) (fun a ha => by rw [E2])
    · exact hX.b.of (by exact R _ (by omega) (by omega) (by omega) (by omega) (by omega) (by omega)) (by exact F _ (by decide) (by decide)) (by exact R _ (by omega) (by omega) (by omega) (by omega) (by omega) (by omega))
    · exact hc
    · exact hX.f.of (fun a ha => by exact R _ (by omega) (by omega) (by omega) (by omega) (by omega) (by omega)) (by exact F _ (by decide) (by decide)) (by exact F _ (by decide) (by decide))
    · exact hX.g.of (fun a ha => by exact R _ (by omega) (by omega) (by omega) (by omega) (by omega) (by omega)) (by exact F _ (by decide) (by decide))
    · exact hX.o.of (by exact R _ (by omega) (by omega) (by omega) (by omega) (by omega) (by omega)) (by exact F _ (by decide) (by decide)) (by exact F _ (by decide) (by decide)) (by exact F _ (by decide) (by decide))
  unfold fX11_path fX12_path
  rw [ca_re]
  unfold fX1_workOutPath
  by_cases h1 : 0 ≤ a ∧ a < bP X 4 1 6
  case neg =>
    refine ⟨-1, X, sI X 218 0 0, by rw [ca_s (k_has (by decide)), it_t (bz_f h1)]; rfl, ?_, hX.thrown⟩
    rw [pI_e, ca_s (e_isTrain hL ok _), it_t (bz_f h1)]; rfl
  by_cases h2 : 0 ≤ c ∧ c < bP X 4 1 0
  case neg =>
    refine ⟨-1, X, sI X 218 0 0, by rw [ca_s (k_has (by decide)), it_f (bz_t h1), ca_s (k_has (by decide)), it_t (bz_f h2)]; rfl, ?_, hX.thrown⟩
    rw [pI_e, ca_s (e_isTrain hL ok _), it_f (bz_t h1), ca_s (e_isSection hL ok _), it_t (bz_f h2)]; rfl
  have h1' := h1
  rw [ok.c6.1] at h1'
  obtain ⟨t, ht, rfl⟩ := idx_of (by omega) h1'
  have h2' := h2
  rw [ok.c0.1] at h2'
  obtain ⟨τ, hτ, rfl⟩ := idx_of (by omega) h2'
  rcases w.v.2.2 t ht with hV | ⟨s, hV, hs⟩
  · refine ⟨-1, X, sI X 218 0 0, ?_, ?_, hX.thrown⟩
    · rw [ca_s (k_has (by decide)), it_f (bz_t h1), ca_s (k_has (by decide)), it_f (bz_t h2), k_V (by omega) (by decide) (by decide), it_t hV]; rfl
    · rw [pI_e, ca_s (e_isTrain hL ok _), it_f (bz_t h1), ca_s (e_isSection hL ok _), it_f (bz_t h2), ix_la, rA_n (by omega) (by decide), hS.at ht, hV, it_t (by decide)]; rfl
  have vm : ¬ bV X 47 4 t = -1 := by rw [hV]; exact nI_m1 (by omega)
  -- the reference, up to its measure
  have refr : ∀ Z : X_, Z.1 220 = X.1 220 → ∃ ε, DN (pa (bP X 4) (bP X 4 20 t)) (ph (bP X 4) τ) (ps (bP X 4)) (pe (bP X 4)) (ct (bP X 4) 4) 1000000 ε ∧ fX12_path (nI t) (nI τ) Z = (jo1 (fun w6 => (it (w6 < 1000000) (pI 218 31 w6 (lz2 (fun L104 x7 x8 => (it (w6 ≤ x8) (re w6) (lz1 (fun L114 x9 => (ca (fX12_isFrom x9 x7 (bP X 4 20 t)) fun v10 => (it (v10 = 0) (L114 (x9 + 1)) (ca (fX12_wantsBy x9 (nI τ)) fun v11 => (it (v11 = (w6 - x8)) (wA 230 12 x8 x9 (ca (fX12_endOf x9) fun v12 => (L104 v12 (x8 + 1)))) (L114 (x9 + 1))))))) FU 0))) FU (nI s) 0)) (re (-1)))) (fun J83 => (it (nI s = nI τ) (J83 0) (rA 229 12 (nI s) fun v13 => (J83 v13))))) (setR (sI Z 218 0 0) 229 (rD ε (Z.1 229))) := fun Z e => by
    have zL : RLa (bP X 4) ((sI Z 218 0 0).1 220) := by rw [t_220, e]; exact w.r
    have zS : RS (bP X 4) (bV X 47) ((sI Z 218 0 0).1 220) := by rw [t_220, e]; exact w.s.1
    obtain ⟨ε, e1, e2⟩ := e_lays zL wL (show τ < 32 by omega) (bP X 4 20 t)
    refine ⟨ε, e2, ?_⟩
    have v0 : ¬ bV X 47 4 t + 1 = 0 := by rw [hV, nI_1]; exact nI_n0 (by omega) (by omega)
    unfold fX12_path
    rw [pI_e, ca_s (e_isTrain zL ok _), it_f (bz_t h1), ca_s (e_isSection zL ok _), it_f (bz_t h2), ix_la, rA_n (by omega) (by decide), zS.at ht, it_f v0, rA_n (by omega) (by decide), zS.at ht, ix_la, rA_n (by omega) (by decide), zL.v20 ht, ca_s e1, hV, Int32.add_sub_cancel, sI_row (by decide)]
  -- the component, up to its choice
  have comp : ∀ (o : Option (Int32 × X_)), o = (ca (fX5_has 4 6 (nI t)) fun v1 => (it (v1 = 0) (re (-1)) (ca (fX5_has 4 0 (nI τ)) fun v2 => (it (v2 = 0) (re (-1)) (rA (47 + 4) 5 (nI t) fun v3 => (it (v3 = (-1)) (re (-1)) (rA (47 + 4) 5 (nI t) fun v4 => (it (v4 = nI τ) (pI 141 3 0 (re 0)) (rA (4 + 20) 5 (nI t) fun v5 => (ca (fX1_measure v5 (nI τ)) fun _ => (rA 144 12 v4 fun v6 => (it (v6 < 100) (ca (fX1_walk v4 v5 (nI τ)) fun _ => (gI 141 3 fun v7 => (re v7))) (re (-1)))))))))))))) X → o = (it (nI s = nI τ) (pI 141 3 0 (re 0)) (ca (fX1_measure (bP X 4 20 t) (nI τ)) fun _ => (rA 144 12 (nI s) fun v6 => (it (v6 < 100) (ca (fX1_walk (nI s) (bP X 4 20 t) (nI τ)) fun _ => (gI 141 3 fun v7 => (re v7))) (re (-1)))))) X := fun o ho => by
    rw [ho, ca_s (k_has (by decide)), it_f (bz_t h1), ca_s (k_has (by decide)), it_f (bz_t h2), k_V (by omega) (by decide) (by decide), it_f vm, k_V (by omega) (by decide) (by decide), hV]
    by_cases z : nI s = nI τ
    · rw [it_t z, it_t z]
    · rw [it_f z, it_f z, k_P (by omega) (by decide) (by decide)]
  rw [comp _ rfl]
  change ∃ v X1 X2, _ ∧ fX12_path (nI t) (nI τ) X1 = some (v, X2) ∧ Inv X2
  by_cases z : nI s = nI τ
  · obtain ⟨ε, e1, e2⟩ := refr (sI X 141 3 0) (sI_row (by decide))
    refine ⟨0, sI X 141 3 0, sI (setR (sI (sI X 141 3 0) 218 0 0) 229 (rD ε ((sI X 141 3 0).1 229))) 218 31 0, by rw [it_t z]; rfl, ?_, ?_⟩
    · rw [e2, jo1_e, it_t z]
      dsimp only
      rw [it_t (show (0 : Int32) < 1000000 by decide), pI_e, FU_eq, lz2_s, it_t (show (0 : Int32) ≤ 0 by decide)]
      rfl
    · refine fin _ (fun q q1 q2 q3 q4 q5 q6 => by rw [sI_row q4, setR_ne q5, sI_row q4, sI_row q1]) (fun q q1 q2 => by rw [sI_ne (by omega), setR_ne (by decide), sI_ne (by omega), sI_row (by decide)]) rfl ?_
      refine ⟨?_, Or.inr ⟨0, by decide, ?_, sI_eq, fun i hi => absurd hi (Nat.not_lt_zero i)⟩⟩
      · have old := hX.c.1
        rw [sI_row (show ¬ 141 = 218 by decide), setR_ne (show ¬ 141 = 229 by decide), sI_row (show ¬ 141 = 218 by decide), sI_ne (show ¬ (141 = 141 ∧ 1 = 3) by decide), sI_ne (show ¬ (218 = 218 ∧ 25 = 31) by decide), setR_ne (show ¬ 218 = 229 by decide), sI_ne (show ¬ (218 = 218 ∧ 25 = 0) by decide), sI_row (show ¬ 218 = 141 by decide), sI_row (show ¬ 142 = 218 by decide), setR_ne (show ¬ 142 = 229 by decide), sI_row (show ¬ 142 = 218 by decide), sI_row (show ¬ 142 = 141 by decide), sI_row (show ¬ 227 = 218 by decide), setR_ne (show ¬ 227 = 229 by decide), sI_row (show ¬ 227 = 218 by decide), sI_row (show ¬ 227 = 141 by decide)]
        exact old
      · rw [sI_row (by decide), setR_ne (by decide), sI_row (by decide), sI_eq]; rfl
  · obtain ⟨δ, d1, d2⟩ := k_measure (X := X) rfl wL (show τ < 32 by omega) (bP X 4 20 t)
    have c1 : ∀ K : Int32 → RM Int32, (ca (fX1_measure (bP X 4 20 t) (nI τ)) fun _ => (rA 144 12 (nI s) fun v6 => K v6)) X = (K (nI (δ s)) : RM Int32) (setR X 144 (rD δ (X.1 144))) := fun K => by rw [ca_s d1, rA_n (by omega) (by decide), setR_eq, rD_in (by omega)]
    have dl := (d2.1 s).1
    by_cases y : rc (pa (bP X 4) (bP X 4 20 t)) (ph (bP X 4) τ) (ps (bP X 4)) (pe (bP X 4)) (ct (bP X 4) 4) (ct (bP X 4) 4) s = true
    · have dR := d2.2 _ s y
      have drc := (d2.1 s).2.resolve_left (by omega)
      obtain ⟨π, σ, s0, hw⟩ := way_ex wL d2 (δ s) s (by omega) rfl (fun _ => drc)
      subst s0
      have kw := k_walk (X := setR X 144 (rD δ (X.1 144))) (P := bP X 4) (bB_same (fun a h1 h2 => setR_ne (by omega))) wL setR_eq (fun s => (d2.1 s).1) (show τ < 32 by omega) (show δ (σ 0) ≤ 10 by omega) (bP X 4 20 t) (by omega) rfl hw
      generalize hk : δ (σ 0) = k at *
      let X1 : X_ := putR (setR X 144 (rD δ (X.1 144))) 143 141 3 (rP π k ((setR X 144 (rD δ (X.1 144))).1 143), k)
      have r1 : ∀ q, ¬ q = 141 → ¬ q = 143 → ¬ q = 144 → X1.1 q = X.1 q := fun q q1 q2 q3 => by
        show (putR (setR X 144 _) 143 141 3 _).1 q = _
        rw [putR_ne q2 q1, setR_ne q3]
      obtain ⟨ε, e1, e2⟩ := refr X1 (r1 _ (by decide) (by decide) (by decide))
      have same := d2.same _ _ _ _ _ e1 (show ct (bP X 4) 4 < 100 by omega) (show ct (bP X 4) 4 < 1000000 by omega)
      have same2 : ∀ s, (δ s = 100 ∧ ε s = 1000000) ∨ δ s = ε s := fun s => (same s).imp id (fun h => h.1)
      have ek : ε (σ 0) = k := by
        rcases same (σ 0) with h | h
        · omega
        · omega
      let Y : X_ := sI (setR (sI X1 218 0 0) 229 (rD ε (X1.1 229))) 218 31 (nI k)
      have y220 : Y.1 220 = X.1 220 := by
        show (sI (setR (sI X1 218 0 0) 229 _) 218 31 (nI k)).1 220 = _
        rw [sI_row (by decide), setR_ne (by decide), sI_row (by decide), r1 _ (by decide) (by decide) (by decide)]
      have y229 : Y.1 229 = rD ε (X1.1 229) := by
        show (sI (setR (sI X1 218 0 0) 229 _) 218 31 (nI k)).1 229 = _
        rw [sI_row (by decide), setR_eq]
      have ew := e_walk (X := Y) (P := bP X 4) (k := k) (by rw [y220]; exact w.r) wL y229 (fun s => (e1.1 s).1) (show τ < 32 by omega) (by omega) (bP X 4 20 t) (π := π) (σ := σ) (fun j hj => by
        obtain ⟨a1, a2, a3, a4, a5, a6⟩ := hw j hj
        exact ⟨a1, a3, by rw [sel_same same2 (by omega)]; exact a4, fun q hq => by rw [sel_same same2 (by omega)]; exact a5 q hq, a6⟩)
      refine ⟨nI k, X1, setR Y 230 (rP π k (Y.1 230)), ?_, ?_, ?_⟩
      · rw [it_f z, c1 (fun v6 => (it (v6 < 100) (ca (fX1_walk (nI (σ 0)) (bP X 4 20 t) (nI τ)) fun _ => (gI 141 3 fun v7 => (re v7))) (re (-1)))), it_t (show nI k < 100 from (nI_ltI (b := 100) (by omega) (by decide)).mpr (by omega)), ca_s kw, gI_e, putR_ck]
        rfl
      · rw [e2, jo1_e, it_f z, rA_n (by omega) (by decide), setR_eq, rD_in (by omega), ek]
        dsimp only
        rw [it_t (show nI k < 1000000 from (nI_ltI (b := 1000000) (by omega) (by decide)).mpr (by omega)), pI_e]
        exact ew
      · have R : ∀ q, ¬ q = 141 → ¬ q = 143 → ¬ q = 144 → ¬ q = 218 → ¬ q = 229 → ¬ q = 230 → (setR Y 230 (rP π k (Y.1 230))).1 q = X.1 q := fun q q1 q2 q3 q4 q5 q6 => by
          rw [setR_ne q6]
          show (sI (setR (sI X1 218 0 0) 229 _) 218 31 (nI k)).1 q = _
          rw [sI_row q4, setR_ne q5, sI_row q4, r1 q q1 q2 q3]
        have F : ∀ q, ¬ q = 0 → ¬ q = 31 → (setR Y 230 (rP π k (Y.1 230))).1 218 q = X.1 218 q := fun q q1 q2 => by
          rw [setR_ne (by decide)]
          show (sI (setR (sI X1 218 0 0) 229 _) 218 31 (nI k)).1 218 q = _
          rw [sI_ne (by omega), setR_ne (by decide), sI_ne (by omega), r1 _ (by decide) (by decide) (by decide)]
        refine fin _ R F rfl ?_
        have old := hX.c.1
        have g0 : ∀ q, ¬ q = 218 → ¬ q = 229 → ¬ q = 230 → (setR Y 230 (rP π k (Y.1 230))).1 q = X1.1 q := fun q q1 q2 q3 => by
          rw [setR_ne q3]
          show (sI (setR (sI X1 218 0 0) 229 _) 218 31 (nI k)).1 q = _
          rw [sI_row q1, setR_ne q2, sI_row q1]
        have g1 : X1.1 141 1 = X.1 141 1 := by
          show (putR (setR X 144 _) 143 141 3 _).1 141 1 = _
          rw [putR_f (by decide) (by decide), setR_ne (by decide)]
        have g3 : X1.1 141 3 = nI k := putR_ck
        have g4 : X1.1 143 = rP π k ((setR X 144 (rD δ (X.1 144))).1 143) := putR_row (by decide)
        refine ⟨?_, ?_⟩
        · rw [g0 141 (by decide) (by decide) (by decide), g1, F 25 (by decide) (by decide), R 142 (by decide) (by decide) (by decide) (by decide) (by decide) (by decide), R 227 (by decide) (by decide) (by decide) (by decide) (by decide) (by decide)]
          exact old
        · rw [g0 141 (by decide) (by decide) (by decide), g3, g0 143 (by decide) (by decide) (by decide), g4, setR_eq, setR_ne (by decide)]
          refine Or.inr ⟨k, by omega, rfl, ?_, fun i hi => ?_⟩
          · exact sI_eq
          · unfold rP
            rw [if_pos hi, if_pos hi]
    · have d100 : δ s = 100 := (d2.1 s).2.resolve_right (fun q => y (rc_R _ _ _ _ _ q))
      obtain ⟨ε, e1, e2⟩ := refr (setR X 144 (rD δ (X.1 144))) (setR_ne (by decide))
      have em : ε s = 1000000 := (e1.1 s).2.resolve_right (fun q => y (rc_R _ _ _ _ _ q))
      refine ⟨-1, setR X 144 (rD δ (X.1 144)), setR (sI (setR X 144 (rD δ (X.1 144))) 218 0 0) 229 (rD ε ((setR X 144 (rD δ (X.1 144))).1 229)), ?_, ?_, ?_⟩
      · rw [it_f z, c1 (fun v6 => (it (v6 < 100) (ca (fX1_walk (nI s) (bP X 4 20 t) (nI τ)) fun _ => (gI 141 3 fun v7 => (re v7))) (re (-1)))), d100, it_f (show ¬ nI 100 < 100 by decide)]
        rfl
      · rw [e2, jo1_e, it_f z, rA_n (by omega) (by decide), setR_eq, rD_in (by omega), em]
        dsimp only
        rw [it_f (show ¬ nI 1000000 < 1000000 by decide)]
        rfl
      · have R : ∀ q, ¬ q = 144 → ¬ q = 218 → ¬ q = 229 → (setR (sI (setR X 144 (rD δ (X.1 144))) 218 0 0) 229 (rD ε ((setR X 144 (rD δ (X.1 144))).1 229))).1 q = X.1 q := fun q q1 q2 q3 => by rw [setR_ne q3, sI_row q2, setR_ne q1]
        have F : ∀ q, ¬ q = 0 → (setR (sI (setR X 144 (rD δ (X.1 144))) 218 0 0) 229 (rD ε ((setR X 144 (rD δ (X.1 144))).1 229))).1 218 q = X.1 218 q := fun q q1 => by rw [setR_ne (by decide), sI_ne (by omega), setR_ne (by decide)]
        exact fin _ (fun q q1 q2 q3 q4 q5 q6 => R q q3 q4 q5) (fun q q1 q2 => F q q1) rfl (hX.c.of (fun a ha => R a (by omega) (by omega) (by omega)) (F _ (by decide)) (F _ (by decide)))
end PW
