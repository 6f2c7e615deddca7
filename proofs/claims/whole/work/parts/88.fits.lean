/-! fits: both -/
section FI
variable {P V : m_V} {X : X_}
theorem k_keepF {N h : Nat} {O : Int32} {b : Nat → Nat} (hN : N ≤ 12) (hh : h ≤ 6) (h1 : X.1 1 1 = nI (2 * h)) (h2 : ∀ k, k < 2 * h → X.1 2 k = nI (b k)) (hb : ∀ j, j < h → b (2 * j) < 32) : fX2_keepFailures (nI (2 * N)) O X = some ((), putR X 147 146 1 (ap (fun f => af (pf N O b f) 0 h) nI (2 * N + 1) (X.1 147, 0))) := by
  have e0 : sI X 146 1 0 = putR X 147 146 1 (ap (fun f => af (pf N O b f) 0 h) nI 0 (X.1 147, 0)) := by
    show _ = putR X 147 146 1 (X.1 147, 0)
    unfold putR
    rw [setR_self rfl]
    rfl
  unfold fX2_keepFailures
  rw [pI_e, e0]
  refine lz1_X (n := 2 * N + 1) (fun i => putR X 147 146 1 (ap (fun f => af (pf N O b f) 0 h) nI i (X.1 147, 0))) (by omega) (fun i L hi => ?_) (fun L => ?_)
  · have hle : (ap (fun f => af (pf N O b f) 0 h) nI i (X.1 147, 0)).2 ≤ 0 + i := (ap_le _ _ (X.1 147, 0) i).2
    have g1 : ∀ s, (putR X 147 146 1 s).1 1 1 = nI (2 * h) := fun s => by rw [putR_ne (by decide) (by decide)]; exact h1
    have g2 : ∀ s, ∀ k, k < 2 * h → (putR X 147 146 1 s).1 2 k = nI (b k) := fun s k hk => by rw [putR_ne (by decide) (by decide)]; exact h2 k hk
    rw [it_f (nI_nlt (by omega) (by omega)), gI_e, putR_ck, it_f (nI_ge (by omega) (by decide)), ca_s (k_explains hN (by omega) hh (g1 _) (g2 _) hb), ap, nI_1]
    cases af (pf N O b i) 0 h
    · rw [it_t (show b2 false = 0 from rfl)]; rfl
    · rw [it_f (show ¬ b2 true = 0 by decide), gI_e, putR_ck, wA_n (by omega) (by decide), gI_e, sI_ne (by omega), putR_ck, pI_e, nI_1, putR_put (by decide)]; rfl
  · rw [it_t ((nI_ltI (by omega) (by omega)).mpr (by omega))]; rfl
theorem e_keepF {Y : X_} {α : Type} {K : RM α} (hL : RLa P (Y.1 220)) (w : okP P) (hS : RS P V (Y.1 220)) (hD : wfD P V) {h : Nat} {b : Nat → Nat} (hh : h ≤ 6) (h1 : Y.1 218 3 = nI (2 * h)) (h2 : ∀ k, k < 2 * h → Y.1 219 k &&& 255 = nI (b k)) (hb : ∀ j, j < h → b (2 * j) < ct P 0) : (pI 218 33 0 (lz1 (fun L129 x9 => (rA 220 469 0 fun v10 => (it ((2 * v10) < x9) K (ca (fX12_isFit x9) fun v16 => (it (v16 = 0) (L129 (x9 + 1)) (gI 218 33 fun v17 => (wA 231 25 v17 x9 (gI 218 33 fun v18 => (pI 218 33 (v18 + 1) (L129 (x9 + 1))))))))))) FU 0)) Y = K (putR Y 231 218 33 (ap (fun f => af (pf (ct P 0) (s_occupied P V) b f) 0 h) nI (2 * ct P 0 + 1) (Y.1 231, 0))) := by
  have c0 := w.c0.2
  have e0 : sI Y 218 33 0 = putR Y 231 218 33 (ap (fun f => af (pf (ct P 0) (s_occupied P V) b f) 0 h) nI 0 (Y.1 231, 0)) := by
    show _ = putR Y 231 218 33 (Y.1 231, 0)
    unfold putR
    rw [setR_self rfl]
    rfl
  rw [pI_e, e0]
  refine lz1_X (n := 2 * ct P 0 + 1) (fun i => putR Y 231 218 33 (ap (fun f => af (pf (ct P 0) (s_occupied P V) b f) 0 h) nI i (Y.1 231, 0))) (by omega) (fun i L hi => ?_) (fun L => ?_)
  · have hle : (ap (fun f => af (pf (ct P 0) (s_occupied P V) b f) 0 h) nI i (Y.1 231, 0)).2 ≤ 0 + i := (ap_le _ _ (Y.1 231, 0) i).2
    have g1 : ∀ s, (putR Y 231 218 33 s).1 218 3 = nI (2 * h) := fun s => by rw [putR_f (by decide) (by decide)]; exact h1
    have g2 : ∀ s, ∀ k, k < 2 * h → (putR Y 231 218 33 s).1 219 k &&& 255 = nI (b k) := fun s k hk => by rw [putR_ne (by decide) (by decide)]; exact h2 k hk
    have g3 : ∀ s, (putR Y 231 218 33 s).1 220 = Y.1 220 := fun s => putR_ne (by decide) (by decide)
    rw [rA_l (by decide) (by decide), g3, hL.n0 w, ix_lm, it_f (nI_nlt (by omega) (by omega)), ca_s (e_isFit (by rw [g3]; exact hL) w (by rw [g3]; exact hS) hD (by omega) hh (g1 _) (g2 _) hb), ap, nI_1]
    cases af (pf (ct P 0) (s_occupied P V) b i) 0 h
    · rw [it_t (show b2 false = 0 from rfl)]; rfl
    · rw [it_f (show ¬ b2 true = 0 by decide), gI_e, putR_ck, wA_n (by omega) (by decide), gI_e, sI_ne (by omega), putR_ck, pI_e, nI_1, putR_put (by decide)]; rfl
  · rw [rA_l (by decide) (by decide), putR_ne (by decide) (by decide), hL.n0 w, ix_lm, it_t ((nI_ltI (by omega) (by omega)).mpr (by omega))]
/-- the reference, once it has taken the text -/
def tkn (X : X_) (n : Nat) : X_ := sI (sI (sI (sI (sI X 218 0 0) 218 3 (nI n)) 218 2 0) 218 4 0) 218 5 1460
theorem sim_fits : Sim fX11_fits fX12_fits := fun X hX => by
  have w := hX.w
  have ok := w.ok
  have c0 := ok.c0.2
  obtain ⟨n, hn, t1, t2, tb⟩ := hX.t
  have exb : ∃ b : Nat → Nat, ∀ k, k < n → b k < 256 ∧ X.1 2 k = nI (b k) ∧ X.1 219 k &&& 255 = nI (b k) := by
    refine ⟨fun k => (X.1 2 k).toNatClampNeg, fun k hk => ?_⟩
    obtain ⟨b, b1, b2, b3⟩ := tb k hk
    have : (X.1 2 k).toNatClampNeg = b := by rw [b2, nI_clamp (by omega)]
    dsimp only
    rw [this]
    exact ⟨b1, b2, b3⟩
  obtain ⟨b, hb⟩ := exb
  have kO : fX8_occupied 47 X = some (s_occupied (bP X 4) (bV X 47), X) := gd_t ok
  have kR := k_isReport (X := X) (b := b) ok hn t1 (fun k hk => ⟨(hb k hk).2.1, (hb k hk).1⟩)
  -- the clauses, whatever was kept
  have fin : ∀ Z : X_, (∀ q, ¬ q = 1 → ¬ q = 146 → ¬ q = 147 → ¬ q = 218 → ¬ q = 231 → Z.1 q = X.1 q) → (∀ q, ¬ q = 0 → ¬ (2 ≤ q ∧ q ≤ 5) → ¬ q = 33 → ¬ q = 34 → Z.1 218 q = X.1 218 q) → Z.2 = X.2 → Z.1 1 1 = 0 → Z.1 218 2 = 0 → I_f Z → Inv Z := fun Z R F E2 z1 z2 hf => by
    refine ⟨?_, ?_, ?_, ?_, ?_, ?_, ?_, ?_, ?_, ?_⟩
    · exact ⟨0, by decide, z1, z2, fun k hk => absurd hk (Nat.not_lt_zero k)⟩
    · exact hX.k.of (by rw [E2]) (by rw [E2])
    · exact hX.w.of (fun a ha => by exact R _ (by omega) (by omega) (by omega) (by omega) (by omega)) (fun a ha => by rw [E2])
    · exact hX.h.of (fun a ha => by exact R _ (by omega) (by omega) (by omega) (by omega) (by omega)) (by exact F _ (by decide) (by decide) (by decide) (by decide)) (by rw [E2])
    · exact hX.i.of (fun a ha => by exact R _ (by omega) (by omega) (by omega) (by omega) (by omega)) (fun a ha => by rw [E2])
    · exact hX.b.of (by exact R _ (by omega) (by omega) (by omega) (by omega) (by omega)) (by exact F _ (by decide) (by decide) (by decide) (by decide)) (by exact R _ (by omega) (by omega) (by omega) (by omega) (by omega))
    · exact hX.c.of (fun a ha => by exact R _ (by omega) (by omega) (by omega) (by omega) (by omega)) (by exact F _ (by decide) (by decide) (by decide) (by decide)) (by exact F _ (by decide) (by decide) (by decide) (by decide))
    · exact hf
    · exact hX.g.of (fun a ha => by exact R _ (by omega) (by omega) (by omega) (by omega) (by omega)) (by exact F _ (by decide) (by decide) (by decide) (by decide))
    · exact hX.o.of (by exact R _ (by omega) (by omega) (by omega) (by omega) (by omega)) (by exact F _ (by decide) (by decide) (by decide) (by decide)) (by exact F _ (by decide) (by decide) (by decide) (by decide)) (by exact F _ (by decide) (by decide) (by decide) (by decide))
  unfold fX11_fits fX12_fits
  -- the reference's first steps
  have take : ∀ Z : X_, Z.1 218 2 = nI n → fX12_taken 1460 (sI Z 218 0 0) = some ((), tkn Z n) := fun Z hZ => by
    unfold fX12_taken
    rw [gI_e, sI_ne (by decide), hZ]
    rfl
  have tkR : ∀ (Z : X_) q, ¬ q = 218 → (tkn Z n).1 q = Z.1 q := fun Z q hq => by
    unfold tkn
    rw [sI_row hq, sI_row hq, sI_row hq, sI_row hq, sI_row hq]
  have tkF : ∀ (Z : X_) q, ¬ q = 0 → ¬ (2 ≤ q ∧ q ≤ 5) → (tkn Z n).1 218 q = Z.1 218 q := fun Z q q1 q2 => by
    unfold tkn
    rw [sI_ne (by omega), sI_ne (by omega), sI_ne (by omega), sI_ne (by omega), sI_ne (by omega)]
  have tk3 : ∀ Z : X_, (tkn Z n).1 218 3 = nI n := fun Z => by
    unfold tkn
    rw [sI_ne (by decide), sI_ne (by decide), sI_ne (by decide), sI_eq]
  have tk2 : ∀ Z : X_, (tkn Z n).1 218 2 = 0 := fun Z => by
    unfold tkn
    rw [sI_ne (by decide), sI_ne (by decide), sI_eq]
  have inin : ∀ Z : X_, fX12_isIn (nI n) 2 12 Z = some (b2 (decide (2 ≤ n ∧ n ≤ 12)), Z) := fun Z => by
    unfold fX12_isIn
    by_cases a1 : n < 2
    · rw [it_t (show nI n < 2 from (nI_ltI (b := 2) (by omega) (by decide)).mpr a1), decide_eq_false (by omega)]; rfl
    · rw [it_f (show ¬ nI n < 2 from fun e => a1 ((nI_ltI (b := 2) (by omega) (by decide)).mp e))]
      by_cases a2 : 12 < n
      · rw [it_t (show (12 : Int32) < nI n from (nI_ltI (a := 12) (by decide) (by omega)).mpr a2), decide_eq_false (by omega)]; rfl
      · rw [it_f (show ¬ (12 : Int32) < nI n from fun e => a2 ((nI_ltI (a := 12) (by decide) (by omega)).mp e)), decide_eq_true (by omega)]; rfl
  have oct : ∀ (Z : X_) k, k < n → Z.1 219 = X.1 219 → fX12_octet (nI k) Z = some (nI (b k), Z) := fun Z k hk e => by
    unfold fX12_octet
    rw [rA_n (by omega) (by decide), e, (hb k hk).2.2]; rfl
  -- an answer that leaves all as it was
  have nil : ∀ v, fX2_workOut (s_occupied (bP X 4) (bV X 47)) X = some (v, X) → fX12_fits (sI X 1 1 0) = some (v, tkn (sI X 1 1 0) n) → ∃ v X1 X2, (ca (fX8_occupied 47) fun v1 => (ca (fX2_workOut v1) fun v2 => (pI 1 1 0 (re v2)))) X = some (v, X1) ∧ fX12_fits X1 = some (v, X2) ∧ Inv X2 := fun v k1 k2 => by
    refine ⟨v, sI X 1 1 0, _, by rw [ca_s kO, ca_s k1]; rfl, k2, ?_⟩
    refine fin _ (fun q q1 q2 q3 q4 q5 => by rw [tkR _ q q4, sI_row q1]) (fun q q1 q2 q3 q4 => by rw [tkF _ q q1 q2, sI_row (by decide)]) rfl (by rw [tkR _ 1 (by decide), sI_eq]) (tk2 _) ?_
    exact hX.f.of (fun a ha => by rw [tkR _ a (by omega), sI_row (by omega)]) (by rw [tkF _ _ (by decide) (by decide), sI_row (by decide)]) (by rw [tkF _ _ (by decide) (by decide), sI_row (by decide)])
  have z22 : ∀ Z : X_, Z.1 218 = X.1 218 → Z.1 218 2 = nI n := fun Z e => by rw [e]; exact t2
  change ∃ v X1 X2, (ca (fX8_occupied 47) fun v1 => (ca (fX2_workOut v1) fun v2 => (pI 1 1 0 (re v2)))) X = some (v, X1) ∧ fX12_fits X1 = some (v, X2) ∧ Inv X2
  by_cases ok1 : 2 ≤ n ∧ n ≤ 12 ∧ n % 2 = 0
  · obtain ⟨h, rfl⟩ : ∃ h, n = 2 * h := ⟨n / 2, by omega⟩
    rw [decide_eq_true ok1, Bool.true_and, Nat.mul_div_cancel_left h (by decide)] at kR
    -- the reference's check of the report
    have chk : ∀ (Z : X_) (K : RM Int32), Z.1 219 = X.1 219 → Z.1 218 3 = nI (2 * h) → RLa (bP X 4) (Z.1 220) → (lz1 (fun L39 x4 => (gI 218 3 fun v5 => (it (v5 ≤ x4) K (ca (fX12_octet x4) fun v20 => (ca (fX12_isSection v20) fun v21 => (it (v21 = 0) (re (-1)) (ca (fX12_octet (x4 + 1)) fun v22 => (it (v22 ≤ 1) (L39 (x4 + 2)) (re (-1)))))))))) FU 0) Z = if af (vr (ct (bP X 4) 0) b) 0 h = true then K Z else some (-1, Z) := fun Z K z1 z2 zL => by
      have loop : ∀ m j fu, j + m = h → m < fu → lz1 (fun L39 x4 => (gI 218 3 fun v5 => (it (v5 ≤ x4) K (ca (fX12_octet x4) fun v20 => (ca (fX12_isSection v20) fun v21 => (it (v21 = 0) (re (-1)) (ca (fX12_octet (x4 + 1)) fun v22 => (it (v22 ≤ 1) (L39 (x4 + 2)) (re (-1)))))))))) fu (nI (2 * j)) Z = if af (vr (ct (bP X 4) 0) b) j m = true then K Z else some (-1, Z) := by
        intro m
        induction m with
        | zero =>
          intro j fu hj hf
          obtain ⟨fu, rfl⟩ : ∃ g, fu = g + 1 := ⟨fu - 1, by omega⟩
          rw [lz1_s, gI_e, z2, it_t (nI_le (by omega) (by omega))]; rfl
        | succ m ih =>
          intro j fu hj hf
          obtain ⟨fu, rfl⟩ : ∃ g, fu = g + 1 := ⟨fu - 1, by omega⟩
          have a2 := (hb (2 * j) (by omega)).1
          have a4 := (hb (2 * j + 1) (by omega)).1
          rw [lz1_s, gI_e, z2, it_f (nI_ge (by omega) (by omega)), ca_s (oct Z _ (by omega) z1), ca_s (e_isSection zL ok _), af, vr, nI_1]
          by_cases e : b (2 * j) < ct (bP X 4) 0
          · rw [it_f (bz_t ((has0 ok a2).mpr e)), ca_s (oct Z _ (by omega) z1), decide_eq_true e, Bool.true_and, ix_al]
            by_cases g : b (2 * j + 1) ≤ 1
            · rw [it_t (show nI (b (2 * j + 1)) ≤ 1 from (nI_leI (b := 1) (by omega) (by decide)).mpr g), decide_eq_true g, Bool.true_and]
              exact ih (j + 1) fu (by omega) (by omega)
            · rw [it_f (show ¬ nI (b (2 * j + 1)) ≤ 1 from fun z => g ((nI_leI (b := 1) (by omega) (by decide)).mp z)), decide_eq_false g]; rfl
          · rw [it_t (bz_f (fun z => e ((has0 ok a2).mp z))), decide_eq_false e]; rfl
      exact loop h 0 FU (by omega) (by rw [FU_eq]; omega)
    have front : ∀ Z : X_, Z.1 218 = X.1 218 → Z.1 219 = X.1 219 → Z.1 220 = X.1 220 → fX12_fits Z = if af (vr (ct (bP X 4) 0) b) 0 h = true then (lz2 (fun L82 x6 x7 => (rA 220 469 0 fun v8 => (it ((2 * v8) < x7) (it (x6 = 0) (re 0) (pI 218 33 0 (lz1 (fun L129 x9 => (rA 220 469 0 fun v10 => (it ((2 * v10) < x9) (pI 218 34 0 (lz1 (fun L185 x11 => (rA 220 469 0 fun v12 => (it (v12 ≤ x11) (re x6) (ca (fX12_leftBy x11) fun v13 => (gI 218 34 fun v14 => (ca (fX12_leftBy v14) fun v15 => (it (v15 ≤ v13) (L185 (x11 + 1)) (pI 218 34 x11 (L185 (x11 + 1)))))))))) FU 1)) (ca (fX12_isFit x9) fun v16 => (it (v16 = 0) (L129 (x9 + 1)) (gI 218 33 fun v17 => (wA 231 25 v17 x9 (gI 218 33 fun v18 => (pI 218 33 (v18 + 1) (L129 (x9 + 1))))))))))) FU 0))) (ca (fX12_isFit x7) fun v19 => (it (v19 = 0) (L82 (x6 + 0) (x7 + 1)) (L82 (x6 + 1) (x7 + 1))))))) FU 0 0) (tkn Z (2 * h)) else some (-1, tkn Z (2 * h)) := fun Z e1 e2 e3 => by
      unfold fX12_fits
      rw [pI_e, ca_s (take Z (z22 Z e1)), gI_e, tk3, ca_s (inin _), it_f (bz_t ⟨ok1.1, ok1.2.1⟩), gI_e, tk3, odd_n (by omega), it_f (show ¬ nI (2 * h % 2) = 1 by rw [ok1.2.2]; decide)]
      exact chk _ _ (by rw [tkR _ _ (by decide), e2]) (tk3 Z) (by rw [tkR _ _ (by decide), e3]; exact w.r)
    by_cases val : af (vr (ct (bP X 4) 0) b) 0 h = true
    · have hv : ∀ j, j < h → b (2 * j) < ct (bP X 4) 0 := fun j hj => by
        have := (af_iff h 0).mp val j (by omega) (by omega)
        unfold vr at this
        rw [Bool.and_eq_true] at this
        exact of_decide_eq_true this.1
      have hN1 : 1 ≤ ct (bP X 4) 0 := by have := hv 0 (by omega); omega
      generalize hp : (fun f => af (pf (ct (bP X 4) 0) (s_occupied (bP X 4) (bV X 47)) b f) 0 h) = p
      have hpf : ∀ f, af (pf (ct (bP X 4) 0) (s_occupied (bP X 4) (bV X 47)) b f) 0 h = p f := fun f => congrFun hp f
      have hcn : cf p 0 (2 * ct (bP X 4) 0 + 1) ≤ 2 * ct (bP X 4) 0 + 1 := cf_le _ _ _
      have x2 : ∀ k, k < 2 * h → X.1 2 k = nI (b k) := fun k hk => (hb k hk).2.1
      have kW : ∀ o, fX2_workOut (s_occupied (bP X 4) (bV X 47)) X = o → o = (it (nI (cf p 0 (2 * ct (bP X 4) 0 + 1)) ≤ 0) (re (nI (cf p 0 (2 * ct (bP X 4) 0 + 1)))) (ca (fX2_keepFailures (nI (2 * ct (bP X 4) 0)) (s_occupied (bP X 4) (bV X 47))) fun _ => (rA (4 + 1) 8 0 fun v5 => (ca (fX2_bestLook v5 (s_occupied (bP X 4) (bV X 47))) fun v6 => (pI 146 2 v6 (re (nI (cf p 0 (2 * ct (bP X 4) 0 + 1)))))))))  X := fun o ho => by
        rw [← ho]
        unfold fX2_workOut
        rw [ca_s kR, it_f (by rw [val]; decide), k_Pl (by decide) (by decide) (by decide), ok.c0.1]
        refine lz2_sumb (n := 2 * ct (bP X 4) 0 + 1) (by omega) p (E := fun x3 => (it (x3 ≤ 0) (re x3) (ca (fX2_keepFailures (nI (2 * ct (bP X 4) 0)) (s_occupied (bP X 4) (bV X 47))) fun _ => (rA (4 + 1) 8 0 fun v5 => (ca (fX2_bestLook v5 (s_occupied (bP X 4) (bV X 47))) fun v6 => (pI 146 2 v6 (re x3)))))) X) (fun q x L hq => ?_) (fun x L => ?_)
        · rw [ix_lm, it_f (nI_nlt (by omega) (by omega)), ca_s (k_explains c0 (by omega) (by omega) t1 x2 (fun j hj => by have := hv j hj; omega)), hpf q, nI_1]
          cases p q
          · rw [it_t (show b2 false = 0 from rfl), show b2 false = 0 from rfl, Int32.add_zero]
          · rw [it_f (show ¬ b2 true = 0 by decide)]; rfl
        · rw [ix_lm, it_t ((nI_ltI (by omega) (by omega)).mpr (by omega))]
      have kW := kW _ rfl
      have eW : ∀ Z : X_, Z.1 218 = X.1 218 → Z.1 219 = X.1 219 → Z.1 220 = X.1 220 → fX12_fits Z = (it (nI (cf p 0 (2 * ct (bP X 4) 0 + 1)) = 0) (re 0) (pI 218 33 0 (lz1 (fun L129 x9 => (rA 220 469 0 fun v10 => (it ((2 * v10) < x9) (pI 218 34 0 (lz1 (fun L185 x11 => (rA 220 469 0 fun v12 => (it (v12 ≤ x11) (re (nI (cf p 0 (2 * ct (bP X 4) 0 + 1)))) (ca (fX12_leftBy x11) fun v13 => (gI 218 34 fun v14 => (ca (fX12_leftBy v14) fun v15 => (it (v15 ≤ v13) (L185 (x11 + 1)) (pI 218 34 x11 (L185 (x11 + 1)))))))))) FU 1)) (ca (fX12_isFit x9) fun v16 => (it (v16 = 0) (L129 (x9 + 1)) (gI 218 33 fun v17 => (wA 231 25 v17 x9 (gI 218 33 fun v18 => (pI 218 33 (v18 + 1) (L129 (x9 + 1))))))))))) FU 0))) (tkn Z (2 * h)) := fun Z e1 e2 e3 => by
        rw [front Z e1 e2 e3, if_pos val]
        have zL : RLa (bP X 4) ((tkn Z (2 * h)).1 220) := by rw [tkR _ _ (by decide), e3]; exact w.r
        have zS : RS (bP X 4) (bV X 47) ((tkn Z (2 * h)).1 220) := by rw [tkR _ _ (by decide), e3]; exact w.s.1
        refine lz2_sumb (n := 2 * ct (bP X 4) 0 + 1) (by omega) p (E := fun x6 => (it (x6 = 0) (re 0) (pI 218 33 0 (lz1 (fun L129 x9 => (rA 220 469 0 fun v10 => (it ((2 * v10) < x9) (pI 218 34 0 (lz1 (fun L185 x11 => (rA 220 469 0 fun v12 => (it (v12 ≤ x11) (re x6) (ca (fX12_leftBy x11) fun v13 => (gI 218 34 fun v14 => (ca (fX12_leftBy v14) fun v15 => (it (v15 ≤ v13) (L185 (x11 + 1)) (pI 218 34 x11 (L185 (x11 + 1)))))))))) FU 1)) (ca (fX12_isFit x9) fun v16 => (it (v16 = 0) (L129 (x9 + 1)) (gI 218 33 fun v17 => (wA 231 25 v17 x9 (gI 218 33 fun v18 => (pI 218 33 (v18 + 1) (L129 (x9 + 1))))))))))) FU 0))) (tkn Z (2 * h))) (fun q x L hq => ?_) (fun x L => ?_)
        · rw [rA_l (by decide) (by decide), zL.n0 ok, ix_lm, it_f (nI_nlt (by omega) (by omega)), ca_s (e_isFit zL ok zS w.v.2.2 (by omega) (by omega) (tk3 Z) (fun k hk => by rw [tkR _ _ (by decide), e2]; exact (hb k hk).2.2) hv), hpf q, nI_1]
          cases p q
          · rw [it_t (show b2 false = 0 from rfl)]; rfl
          · rw [it_f (show ¬ b2 true = 0 by decide)]; rfl
        · rw [rA_l (by decide) (by decide), zL.n0 ok, ix_lm, it_t ((nI_ltI (by omega) (by omega)).mpr (by omega))]
      by_cases z : cf p 0 (2 * ct (bP X 4) 0 + 1) = 0
      · refine nil 0 ?_ ?_
        · rw [kW, z, it_t (by decide)]; rfl
        · rw [eW _ (sI_row (by decide)) (sI_row (by decide)) (sI_row (by decide)), z, it_t (show nI 0 = 0 from rfl)]; rfl
      · have z' : ¬ nI (cf p 0 (2 * ct (bP X 4) 0 + 1)) ≤ 0 := fun e => by have := (nI_leI (b := 0) (by omega) (by decide)).mp e; omega
        have kk := k_keepF (X := X) (O := s_occupied (bP X 4) (bV X 47)) c0 (show h ≤ 6 by omega) t1 x2 (fun j hj => by have := hv j hj; omega)
        rw [hp] at kk
        generalize hA : ap p nI (2 * ct (bP X 4) 0 + 1) (X.1 147, 0) = A at kk
        have A2 : A.2 = cf p 0 (2 * ct (bP X 4) 0 + 1) := by rw [← hA, ap_cf, Nat.zero_add]
        have mem : ∀ i, ∃ a, i < A.2 → a < 2 * ct (bP X 4) 0 + 1 ∧ A.1 i = nI a := fun i => by
          by_cases hi : i < A.2
          · rw [← hA] at hi ⊢
            obtain ⟨a, a1, a2⟩ := ap_mem _ i hi
            exact ⟨a, fun _ => ⟨a1, a2⟩⟩
          · exact ⟨0, fun e => absurd e hi⟩
        obtain ⟨φ, hφ⟩ := Classical.axiomOfChoice mem
        have kb := k_best (X := putR X 147 146 1 A) (N := ct (bP X 4) 0) (n := A.2) (O := s_occupied (bP X 4) (bV X 47)) (φ := φ) hN1 c0 (by omega) putR_ck (fun i hi => by
          rw [putR_row (by decide)]
          exact ⟨(hφ i hi).2, by have := (hφ i hi).1; omega⟩)
        generalize hB : bst (lft (ct (bP X 4) 0) (s_occupied (bP X 4) (bV X 47)) φ A.2) (ct (bP X 4) 0) = B at kb
        let X1 : X_ := sI (sI (putR X 147 146 1 A) 146 2 (nI B)) 1 1 0
        have r1 : ∀ q, ¬ q = 1 → ¬ q = 146 → ¬ q = 147 → X1.1 q = X.1 q := fun q q1 q2 q3 => by
          show (sI (sI (putR X 147 146 1 A) 146 2 (nI B)) 1 1 0).1 q = _
          rw [sI_row q1, sI_row q2, putR_ne q3 q2]
        have zL : RLa (bP X 4) ((tkn X1 (2 * h)).1 220) := by rw [tkR _ _ (by decide), r1 _ (by decide) (by decide) (by decide)]; exact w.r
        have zS : RS (bP X 4) (bV X 47) ((tkn X1 (2 * h)).1 220) := by rw [tkR _ _ (by decide), r1 _ (by decide) (by decide) (by decide)]; exact w.s.1
        have ke := fun (K : RM Int32) => e_keepF (Y := tkn X1 (2 * h)) (K := K) zL ok zS w.v.2.2 (show h ≤ 6 by omega) (tk3 X1) (fun k hk => by rw [tkR _ _ (by decide), r1 _ (by decide) (by decide) (by decide)]; exact (hb k hk).2.2) hv
        rw [hp] at ke
        have ag : agree A (ap p nI (2 * ct (bP X 4) 0 + 1) ((tkn X1 (2 * h)).1 231, 0)) := by
          rw [← hA]
          exact ap_agree (s := (X.1 147, 0)) (s' := ((tkn X1 (2 * h)).1 231, 0)) ⟨rfl, fun i hi => absurd hi (Nat.not_lt_zero i)⟩ _
        generalize ap p nI (2 * ct (bP X 4) 0 + 1) ((tkn X1 (2 * h)).1 231, 0) = A' at ke ag
        have p220 : (putR (tkn X1 (2 * h)) 231 218 33 A').1 220 = (tkn X1 (2 * h)).1 220 := putR_ne (by decide) (by decide)
        have eb := e_best (X := putR (tkn X1 (2 * h)) 231 218 33 A') (n := A.2) (φ := φ) (by rw [p220]; exact zL) ok (by rw [p220]; exact zS) w.v.2.2 hN1 (by omega) (by rw [putR_ck, ag.1]) (fun i hi => by
          rw [putR_row (by decide), ← ag.2 i hi]
          exact ⟨(hφ i hi).2, by have := (hφ i hi).1; omega⟩) (nI (cf p 0 (2 * ct (bP X 4) 0 + 1)))
        rw [hB] at eb
        refine ⟨nI (cf p 0 (2 * ct (bP X 4) 0 + 1)), X1, sI (putR (tkn X1 (2 * h)) 231 218 33 A') 218 34 (nI B), ?_, ?_, ?_⟩
        · rw [ca_s kO]
          refine ca_s (w := nI (cf p 0 (2 * ct (bP X 4) 0 + 1))) (X' := sI (putR X 147 146 1 A) 146 2 (nI B)) ?_
          rw [kW, it_f z', ca_s kk, rA_l (by decide) (by decide), putR_ne (by decide) (by decide), show X.1 (4 + 1) 0 = nI (ct (bP X 4) 0) from ok.c0.1, ca_s kb]
          rfl
        · rw [eW X1 (r1 _ (by decide) (by decide) (by decide)) (r1 _ (by decide) (by decide) (by decide)) (r1 _ (by decide) (by decide) (by decide)), it_f (nI_n0 (by omega) z), ke]
          exact eb
        · refine fin _ (fun q q1 q2 q3 q4 q5 => by rw [sI_row q4, putR_ne q5 q4, tkR _ q q4, r1 q q1 q2 q3]) (fun q q1 q2 q3 q4 => by rw [sI_ne (by omega), putR_f (by decide) q3, tkF _ q q1 q2, r1 _ (by decide) (by decide) (by decide)]) rfl (by rw [sI_row (by decide), putR_ne (by decide) (by decide), tkR _ 1 (by decide)]; exact sI_eq) (by rw [sI_ne (by decide), putR_f (by decide) (by decide)]; exact tk2 _) ?_
          have f1 : (sI (putR (tkn X1 (2 * h)) 231 218 33 A') 218 34 (nI B)).1 146 1 = nI A.2 := by
            rw [sI_row (by decide), putR_ne (by decide) (by decide), tkR _ _ (by decide)]
            show (sI (sI (putR X 147 146 1 A) 146 2 (nI B)) 1 1 0).1 146 1 = _
            rw [sI_row (by decide), sI_ne (by decide), putR_ck]
          have f2 : (sI (putR (tkn X1 (2 * h)) 231 218 33 A') 218 34 (nI B)).1 146 2 = nI B := by
            rw [sI_row (by decide), putR_ne (by decide) (by decide), tkR _ _ (by decide)]
            show (sI (sI (putR X 147 146 1 A) 146 2 (nI B)) 1 1 0).1 146 2 = _
            rw [sI_row (by decide), sI_eq]
          have f3 : (sI (putR (tkn X1 (2 * h)) 231 218 33 A') 218 34 (nI B)).1 147 = A.1 := by
            rw [sI_row (by decide), putR_ne (by decide) (by decide), tkR _ _ (by decide)]
            show (sI (sI (putR X 147 146 1 A) 146 2 (nI B)) 1 1 0).1 147 = _
            rw [sI_row (by decide), sI_row (by decide), putR_row (by decide)]
          have f4 : (sI (putR (tkn X1 (2 * h)) 231 218 33 A') 218 34 (nI B)).1 218 33 = nI A'.2 := by rw [sI_ne (by decide), putR_ck]
          have f5 : (sI (putR (tkn X1 (2 * h)) 231 218 33 A') 218 34 (nI B)).1 218 34 = nI B := sI_eq
          have f6 : (sI (putR (tkn X1 (2 * h)) 231 218 33 A') 218 34 (nI B)).1 231 = A'.1 := by rw [sI_row (by decide), putR_row (by decide)]
          unfold I_f
          rw [f1, f2, f3, f4, f5, f6, ← ag.1]
          refine ⟨Or.inr ⟨A.2, by omega, rfl, rfl, ag.2⟩, Or.inr ⟨?_, rfl⟩⟩
          exact (nI_ltI (a := 0) (by decide) (by omega)).mpr (by omega)
    · refine nil (-1) ?_ ?_
      · unfold fX2_workOut
        rw [ca_s kR, it_t (by rw [Bool.not_eq_true] at val; rw [val]; rfl)]; rfl
      · rw [front _ (sI_row (by decide)) (sI_row (by decide)) (sI_row (by decide)), if_neg val]
  · rw [decide_eq_false ok1, Bool.false_and] at kR
    refine nil (-1) ?_ ?_
    · unfold fX2_workOut
      rw [ca_s kR, it_t (show b2 false = 0 from rfl)]; rfl
    · unfold fX12_fits
      rw [pI_e, ca_s (take _ (z22 _ (sI_row (by decide)))), gI_e, tk3, ca_s (inin _)]
      by_cases c : 2 ≤ n ∧ n ≤ 12
      · have : n % 2 = 1 := by omega
        rw [it_f (bz_t c), gI_e, tk3, odd_n (by omega), it_t (by rw [this]; rfl)]; rfl
      · rw [it_t (bz_f c)]; rfl
end FI
