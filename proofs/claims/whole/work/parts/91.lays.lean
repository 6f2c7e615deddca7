/-! the reference's measure -/
section LY
variable {P V : m_V} {X : X_}
theorem e_pass {δ : Nat → Nat} {f : Nat → Int32} (hL : RLa P (X.1 220)) (wL : wfL P) {τ : Nat} (hτ : τ < 32) (w : Int32) (lb0 : LB (pa P w) (ph P τ) (ps P) (pe P) (ct P 4) 1000000 δ) (K : Int32 → RM Unit) : ∃ x, (x = 1 ∨ (x = 0 ∧ lo (sN (pa P w) (ph P τ) (ps P) (pe P)) (ct P 4) δ = δ ∧ FX (pa P w) (ph P τ) (ps P) (pe P) (ct P 4) δ)) ∧ (FX (pa P w) (ph P τ) (ps P) (pe P) (ct P 4) δ → x = 0) ∧ (lz2 (fun L34 x3 x4 => (rA 220 469 4 fun v5 => (it (v5 ≤ x4) (K x3) (rA 220 469 (106 + x4) fun v6 => (rA 220 469 (90 + v6) fun v7 => (ca (fX12_isFrom x4 v7 w) fun v8 => (it (v8 = 0) (L34 x3 (x4 + 1)) (ca (fX12_wantsBy x4 (nI τ)) fun v9 => (rA 229 12 v7 fun v10 => (it (v9 < v10) (ca (fX12_wantsBy x4 (nI τ)) fun v11 => (wA 229 12 v7 v11 (L34 1 (x4 + 1)))) (L34 x3 (x4 + 1)))))))))))) FU 0 0) (setR X 229 (rD δ f)) = K x (setR X 229 (rD (lo (sN (pa P w) (ph P τ) (ps P) (pe P)) (ct P 4) δ) f)) := by
  have ok := wL.ok
  have c4 := ok.c4.2
  have c3 := ok.c3.2
  have c0 := ok.c0.2
  refine lz2_post (n := ct P 4) (fun r x Y => Y = setR X 229 (rD (lo (sN (pa P w) (ph P τ) (ps P) (pe P)) r δ) f) ∧ (x = 1 ∨ (x = 0 ∧ lo (sN (pa P w) (ph P τ) (ps P) (pe P)) r δ = δ ∧ ∀ q, q < r → pa P w q = true → δ (ps P q) ≤ cst (ph P τ) (pe P) δ q)) ∧ (FX (pa P w) (ph P τ) (ps P) (pe P) (ct P 4) δ → x = 0)) (fun o => ∃ x, (x = 1 ∨ (x = 0 ∧ lo (sN (pa P w) (ph P τ) (ps P) (pe P)) (ct P 4) δ = δ ∧ FX (pa P w) (ph P τ) (ps P) (pe P) (ct P 4) δ)) ∧ (FX (pa P w) (ph P τ) (ps P) (pe P) (ct P 4) δ → x = 0) ∧ o = K x (setR X 229 (rD (lo (sN (pa P w) (ph P τ) (ps P) (pe P)) (ct P 4) δ) f))) (fun x Y L hI => ?_) (fun r x Y L hr hI ih => ?_) (ct P 4) 0 FU 0 (setR X 229 (rD δ f)) (by omega) (by rw [FU_eq]; omega) ⟨rfl, Or.inr ⟨rfl, rfl, fun q hq => by omega⟩, fun _ => rfl⟩
  · obtain ⟨rfl, h1, h2⟩ := hI
    refine ⟨x, h1, h2, ?_⟩
    rw [rA_l (by decide) (by decide), setR_ne (by decide), hL.n4 ok, it_t (nI_le (Nat.le_refl _) (by omega))]
  · obtain ⟨rfl, h1, h2⟩ := hI
    have lb := LB.pass _ _ _ _ _ lb0 r (by omega)
    have fx : FX (pa P w) (ph P τ) (ps P) (pe P) (ct P 4) δ → lo (sN (pa P w) (ph P τ) (ps P) (pe P)) r δ = δ := fun h => by
      have := h2 h
      rcases h1 with e | ⟨-, e, -⟩
      · rw [e] at this; exact absurd this (by decide)
      · exact e
    obtain ⟨g, g1, g2, g3, g4, g5⟩ := pl_g wL hr
    have hL' : ∀ D, RLa P ((setR X 229 D).1 220) := fun D => by rw [setR_ne (by decide)]; exact hL
    rw [lo] at ih
    generalize hδ : lo (sN (pa P w) (ph P τ) (ps P) (pe P)) r δ = δ' at *
    have cl := cst_le (h := ph P τ) (d := pe P) (r := r) (fun s => (lb s).1)
    have dl := (lb (ps P r)).1
    rw [rA_l (by decide) (by decide), setR_ne (by decide), hL.n4 ok, it_f (nI_ge hr (by omega)), ix_la, rA_n (by omega) (by decide), setR_ne (by decide), hL.r11 hr, g2, ix_la, rA_n (by omega) (by decide), setR_ne (by decide), hL.g9 g1, g5, ca_s (e_isFrom (hL' _) wL hr _ _), decide_eq_true (show nI (ps P r) = nI (ps P r) from rfl), Bool.and_true, nI_1]
    cases ha : pa P w r
    · rw [it_t (show b2 false = 0 from rfl)]
      have e : sN (pa P w) (ph P τ) (ps P) (pe P) r δ' = δ' := by unfold sN; rw [if_neg (by rw [ha]; decide)]
      rw [e] at ih
      refine ih _ _ ⟨rfl, h1.imp id (fun h => ⟨h.1, h.2.1, fun q hq a => ?_⟩), h2⟩
      by_cases z : q = r
      · subst z; rw [ha] at a; exact absurd a (by decide)
      · exact h.2.2 q (by omega) a
    · have h12 : ¬ P 12 r ≤ 0 := by
        unfold pa at ha
        rw [Bool.and_eq_true] at ha
        exact of_decide_eq_true ha.2
      have wt := e_wantsBy (hL' (rD δ' f)) wL setR_eq hr hτ h12
      rw [it_f (show ¬ b2 true = 0 by decide), ca_s wt, rA_n (by omega) (by decide), setR_eq, rD_in (by omega)]
      by_cases c : cst (ph P τ) (pe P) δ' r < δ' (ps P r)
      · have e : sN (pa P w) (ph P τ) (ps P) (pe P) r δ' = uN δ' (ps P r) (cst (ph P τ) (pe P) δ' r) := by unfold sN; rw [if_pos ha, if_pos c]
        rw [e] at ih
        rw [it_t ((nI_ltI (by omega) (by omega)).mpr c), ca_s wt, wA_n (by omega) (by decide), setR_s, rD_up (by omega)]
        refine ih _ _ ⟨rfl, Or.inl rfl, fun h => ?_⟩
        exfalso
        have := fx h
        rw [this] at c
        have := h r hr ha
        omega
      · have e : sN (pa P w) (ph P τ) (ps P) (pe P) r δ' = δ' := by
          unfold sN uN
          rw [if_pos ha, if_neg c]
          funext j
          show (if j = ps P r then δ' (ps P r) else δ' j) = δ' j
          by_cases z : j = ps P r
          · rw [if_pos z, z]
          · rw [if_neg z]
        rw [e] at ih
        rw [it_f (fun z => c ((nI_ltI (by omega) (by omega)).mp z))]
        refine ih _ _ ⟨rfl, h1.imp id (fun h => ⟨h.1, h.2.1, fun q hq a => ?_⟩), h2⟩
        by_cases z : q = r
        · subst z
          rw [h.2.1] at c
          omega
        · exact h.2.2 q (by omega) a
theorem e_lays (hL : RLa P (X.1 220)) (wL : wfL P) {τ : Nat} (hτ : τ < 32) (w : Int32) : ∃ δ, fX12_laysWants (nI τ) w X = some ((), setR X 229 (rD δ (X.1 229))) ∧ DN (pa P w) (ph P τ) (ps P) (pe P) (ct P 4) 1000000 δ := by
  have ok := wL.ok
  have c4 := ok.c4.2
  have loop : ∀ m i f δ x, i + m = ct P 4 + 1 → m + 1 < f → ((x = 1 ∧ i ≤ ct P 4) ∨ (x = 0 ∧ FX (pa P w) (ph P τ) (ps P) (pe P) (ct P 4) δ)) → LB (pa P w) (ph P τ) (ps P) (pe P) (ct P 4) 1000000 δ → UB (pa P w) (ph P τ) (ps P) (pe P) (ct P 4) i δ → ∃ δ', lz1 (fun L25 x2 => (it (x2 = 0) (re ()) (lz2 (fun L34 x3 x4 => (rA 220 469 4 fun v5 => (it (v5 ≤ x4) (L25 x3) (rA 220 469 (106 + x4) fun v6 => (rA 220 469 (90 + v6) fun v7 => (ca (fX12_isFrom x4 v7 w) fun v8 => (it (v8 = 0) (L34 x3 (x4 + 1)) (ca (fX12_wantsBy x4 (nI τ)) fun v9 => (rA 229 12 v7 fun v10 => (it (v9 < v10) (ca (fX12_wantsBy x4 (nI τ)) fun v11 => (wA 229 12 v7 v11 (L34 1 (x4 + 1)))) (L34 x3 (x4 + 1)))))))))))) FU 0 0))) f x (setR X 229 (rD δ (X.1 229))) = some ((), setR X 229 (rD δ' (X.1 229))) ∧ DN (pa P w) (ph P τ) (ps P) (pe P) (ct P 4) 1000000 δ' := by
    intro m
    induction m with
    | zero =>
      intro i f δ x hi hf hx lb ub
      obtain ⟨f, rfl⟩ : ∃ g, f = g + 1 := ⟨f - 1, by omega⟩
      rcases hx with ⟨-, h⟩ | ⟨rfl, fx⟩
      · omega
      · exact ⟨δ, by rw [lz1_s, it_t rfl]; rfl, DN_FX _ _ _ _ _ lb fx⟩
    | succ m ih =>
      intro i f δ x hi hf hx lb ub
      obtain ⟨f, rfl⟩ : ∃ g, f = g + 1 := ⟨f - 1, by omega⟩
      rcases hx with ⟨rfl, h⟩ | ⟨rfl, fx⟩
      · rw [lz1_s, it_f (show ¬ (1 : Int32) = 0 by decide)]
        obtain ⟨x', h1, h2, h3⟩ := e_pass (f := X.1 229) hL wL hτ w lb (lz1 (fun L25 x2 => (it (x2 = 0) (re ()) (lz2 (fun L34 x3 x4 => (rA 220 469 4 fun v5 => (it (v5 ≤ x4) (L25 x3) (rA 220 469 (106 + x4) fun v6 => (rA 220 469 (90 + v6) fun v7 => (ca (fX12_isFrom x4 v7 w) fun v8 => (it (v8 = 0) (L34 x3 (x4 + 1)) (ca (fX12_wantsBy x4 (nI τ)) fun v9 => (rA 229 12 v7 fun v10 => (it (v9 < v10) (ca (fX12_wantsBy x4 (nI τ)) fun v11 => (wA 229 12 v7 v11 (L34 1 (x4 + 1)))) (L34 x3 (x4 + 1)))))))))))) FU 0 0))) f)
        rw [h3]
        refine ih (i + 1) f _ x' (by omega) (by omega) ?_ (LB.pass _ _ _ _ _ lb _ (Nat.le_refl _)) (UB.pass _ _ _ _ _ ub)
        rcases h1 with e | ⟨e, e1, e2⟩
        · refine Or.inl ⟨e, ?_⟩
          by_cases z : i = ct P 4
          · exfalso
            subst z
            have := h2 ((DN_R _ _ _ _ _ lb ub).fx)
            rw [e] at this
            exact absurd this (by decide)
          · omega
        · exact Or.inr ⟨e, by rw [e1]; exact e2⟩
      · exact ⟨δ, by rw [lz1_s, it_t rfl]; rfl, DN_FX _ _ _ _ _ lb fx⟩
  obtain ⟨δ, h1, h2⟩ := loop (ct P 4 + 1) 0 FU (fun _ => 1000000) 1 (by omega) (by rw [FU_eq]; omega) (Or.inl ⟨rfl, by omega⟩) LB_I (fun k s hk e => by rw [show k = 0 by omega] at e; exact absurd e (by rw [rc]; decide))
  refine ⟨δ, ?_, h2⟩
  unfold fX12_laysWants
  rw [← h1]
  have z0 : (fun i => setR X 229 (fun k => if k < i then 1000000 else X.1 229 k)) 0 = X := by
    refine setR_self ?_
    funext k
    exact (if_neg (Nat.not_lt_zero k)).symm
  conv => lhs; rw [← z0]
  refine lz1_X (n := 12) (fun i => setR X 229 (fun k => if k < i then 1000000 else X.1 229 k)) (by decide) (fun i L hi => ?_) (fun L => ?_)
  · rw [it_f (nL_ge hi (by decide)), wA_n (by omega) (by decide), setR_s, nI_1]
    refine congrArg (fun D => L (nI (i + 1)) (setR X 229 D)) ?_
    funext k
    by_cases e : k = i
    · subst e; rw [upS_eq, if_pos (by omega)]
    · rw [upS_ne e]
      by_cases d : k < i
      · rw [if_pos d, if_pos (by omega)]
      · rw [if_neg d, if_neg (by omega)]
  · rw [it_t (nL_le (by decide))]; rfl
end LY
