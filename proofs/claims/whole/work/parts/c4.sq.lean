/-! a sentence: and, or, and the whole -/
section SH
variable {X Y X1 Y1 X0 Y0 : X_} {n p o m k d : Nat} {wh : Int32} {π σ : List Int32}
theorem TK.wn (K : TK X Y) {q : Nat} (hq : q < 32) (h : X.1 1 8 = nI q) : ¬ Y.1 218 11 = 0 := by
  rcases K.word with ⟨w, -, -, h2, -⟩ | ⟨-, -, h3⟩
  · rw [h2]; decide
  · exact absurd (h3.symm.trans h).symm (nI_m1 (by omega))
theorem bh_and {j : Nat} {ρ : List Int32} (h : SQ X0 Y0 n p o m k (d + j) 1 (List.replicate j 20 ++ ρ) σ X Y) (K : TK X Y) (hk : X.1 1 8 = nI 22) (hρ : shp 1 ρ) (hσ : ∀ a s, σ = a :: s → ¬ a = 20 ∧ ¬ a = 21) (hl : σ.length < 40) : ∃ X2 Y2 p2, fX10_next X = some ((), X2) ∧ fX12_behind Y = some (1, Y2) ∧ SQ X0 Y0 n p2 o m k d 0 [] (21 :: σ) X2 Y2 ∧ TK X2 Y2 := by
  have lρ : (List.replicate j (20 : Int32) ++ ρ).length + σ.length ≤ 40 := h.2.2.2.2.1.2.2
  rw [List.length_append, List.length_replicate] at lρ
  obtain ⟨Y5, y1, y2, y3, y4⟩ := e_nots FU h (by rw [FU_eq]; omega) (fun a s e => by
    rcases hρ with q | q <;> rw [q] at e
    · exact (hσ a s e).1
    · obtain ⟨rfl, -⟩ := List.cons.inj e; decide)
  obtain ⟨Y6, z1, z2, z3, z4⟩ := e_joins (till := 21) FU y2 (by rw [FU_eq]; omega) (fun a ha => by
    rcases hρ with q | q <;> rw [q] at ha
    · exact absurd ha (List.not_mem_nil)
    · rcases List.mem_cons.mp ha with z | z
      · exact Or.inl z
      · exact absurd z (List.not_mem_nil)) (fun a s e => ⟨(hσ a s e).2, fun z => absurd z.2 (by decide)⟩)
  have y1 : fX12_nots Y = some ((), Y5) := y1
  have z1 : fX12_joins 21 Y5 = some ((), Y6) := z1
  have K5 : TK X Y5 := K.y (y3 11 (by decide) (by decide) (by decide)) (y3 12 (by decide) (by decide) (by decide)) (y3 14 (by decide) (by decide) (by decide)) (by rw [y4])
  have K6 : TK X Y6 := K5.y (z3 11 (by decide) (by decide)) (z3 12 (by decide) (by decide)) (z3 14 (by decide) (by decide)) (by rw [z4])
  have t6 : Y6.1 218 44 = nI σ.length := by have := z2.2.2.2.2.1.1; rw [List.length_nil, Nat.zero_add] at this; exact this
  obtain ⟨X8, Y8, p8, n8, n8', h8, K8, -⟩ := ((z2.push 21 hl).setw 0).next
  refine ⟨X8, Y8, p8, n8, ?_, h8, K8⟩
  have w5 := e_isWord K5 (k := 22) (by decide) kw_d.2.1.symm
  have w6 := e_isWord K6 (k := 22) (by decide) kw_d.2.1.symm
  rw [decide_eq_true hk] at w5 w6
  unfold fX12_behind
  rw [ca_s y1, ca_s w5, it_f (show ¬ b2 true = 0 by decide), ca_s w5, jo1_e]
  dsimp only
  rw [it_f (show ¬ b2 true = 0 by decide), ca_s z1, gI_e, t6, ca_s w6, it_f (show ¬ b2 true = 0 by decide), wA_n (by omega) (by decide), gI_e, sI_row (by decide), t6, pI_e, nI_1, pI_e, ca_s n8']; rfl
theorem bh_or {j : Nat} {ρ : List Int32} (h : SQ X0 Y0 n p o m k (d + j) 1 (List.replicate j 20 ++ ρ) σ X Y) (K : TK X Y) (hk : X.1 1 8 = nI 21) (hρ : shp 0 ρ) (hσ : ∀ a s, σ = a :: s → ¬ a = 20 ∧ ¬ a = 21 ∧ ¬ a = 22) (hl : σ.length < 40) : ∃ X2 Y2 p2, fX10_next X = some ((), X2) ∧ fX12_behind Y = some (1, Y2) ∧ SQ X0 Y0 n p2 o m k d 0 [] (22 :: σ) X2 Y2 ∧ TK X2 Y2 := by
  have lρ : (List.replicate j (20 : Int32) ++ ρ).length + σ.length ≤ 40 := h.2.2.2.2.1.2.2
  rw [List.length_append, List.length_replicate] at lρ
  obtain ⟨Y5, y1, y2, y3, y4⟩ := e_nots FU h (by rw [FU_eq]; omega) (fun a s e => by
    rcases hρ with q | q | q | q <;> rw [q] at e
    · exact (hσ a s e).1
    · obtain ⟨rfl, -⟩ := List.cons.inj e; decide
    · obtain ⟨rfl, -⟩ := List.cons.inj e; decide
    · obtain ⟨rfl, -⟩ := List.cons.inj e; decide)
  obtain ⟨Y6, z1, z2, z3, z4⟩ := e_joins (till := 22) FU y2 (by rw [FU_eq]; omega) (fun a ha => by
    rcases hρ with q | q | q | q <;> rw [q] at ha
    · exact absurd ha (List.not_mem_nil)
    · rcases List.mem_cons.mp ha with z | z
      · exact Or.inl z
      · exact absurd z (List.not_mem_nil)
    · rcases List.mem_cons.mp ha with z | z
      · exact Or.inr ⟨z, rfl⟩
      · exact absurd z (List.not_mem_nil)
    · rcases List.mem_cons.mp ha with z | z
      · exact Or.inl z
      · rcases List.mem_cons.mp z with z | z
        · exact Or.inr ⟨z, rfl⟩
        · exact absurd z (List.not_mem_nil)) (fun a s e => ⟨(hσ a s e).2.1, fun z => (hσ a s e).2.2 z.1⟩)
  have y1 : fX12_nots Y = some ((), Y5) := y1
  have z1 : fX12_joins 22 Y5 = some ((), Y6) := z1
  have K5 : TK X Y5 := K.y (y3 11 (by decide) (by decide) (by decide)) (y3 12 (by decide) (by decide) (by decide)) (y3 14 (by decide) (by decide) (by decide)) (by rw [y4])
  have K6 : TK X Y6 := K5.y (z3 11 (by decide) (by decide)) (z3 12 (by decide) (by decide)) (z3 14 (by decide) (by decide)) (by rw [z4])
  have t6 : Y6.1 218 44 = nI σ.length := by have := z2.2.2.2.2.1.1; rw [List.length_nil, Nat.zero_add] at this; exact this
  obtain ⟨X8, Y8, p8, n8, n8', h8, K8, -⟩ := ((z2.push 22 hl).setw 0).next
  refine ⟨X8, Y8, p8, n8, ?_, h8, K8⟩
  have nk : ¬ X.1 1 8 = nI 22 := by rw [hk]; decide
  have w5 := e_isWord K5 (k := 22) (by decide) kw_d.2.1.symm
  have w6 := e_isWord K6 (k := 22) (by decide) kw_d.2.1.symm
  have w7 := e_isWord K5 (k := 21) (by decide) kw_d.1.symm
  rw [decide_eq_false nk] at w5 w6
  rw [decide_eq_true hk] at w7
  unfold fX12_behind
  rw [ca_s y1, ca_s w5, it_t (show b2 false = 0 from rfl), ca_s w7, it_f (show ¬ b2 true = 0 by decide), ca_s w5, jo1_e]
  dsimp only
  rw [it_t (show b2 false = 0 from rfl), ca_s z1, gI_e, t6, ca_s w6, it_t (show b2 false = 0 from rfl), wA_n (by omega) (by decide), gI_e, sI_row (by decide), t6, pI_e, nI_1, pI_e, ca_s n8']; rfl
theorem r_lp {lev : Nat} {w a : Int32} {f : Nat} {R : Int32 → RM Int32} (hm : m ≤ 2 * o) (hf : 100 ≤ f + 4 * o)
    (hR : ∀ p o m k σ f X Y, SP X0 Y0 n p (lev + 1) o m k d σ f X Y → SO X0 Y0 n (lev + 1) o m k d σ f (R (nI d) X) (kSL f 1 Y))
    (hbh : ∀ p o m k j ρ X Y, SQ X0 Y0 n p o m k (d + j) 1 (List.replicate j 20 ++ ρ) σ X Y → TK X Y → X.1 1 8 = w → shp lev ρ → ∃ X2 Y2 p2, fX10_next X = some ((), X2) ∧ fX12_behind Y = some (1, Y2) ∧ SQ X0 Y0 n p2 o m k d 0 [] (a :: σ) X2 Y2 ∧ TK X2 Y2)
    (hky : ∀ X : X_, kyc (lev + 1) X → ¬ X.1 1 8 = w → kyc lev X) (hkc : ∀ X X' : X_, X'.1 1 = X.1 1 → kyc (lev + 1) X → kyc (lev + 1) X')
    (hsh : ∀ ρ, shp (lev + 1) ρ → shp lev (ρ ++ [a]))
    (hsp : ∀ p o m k f X Y, SQ X0 Y0 n p o m k d 0 [] (a :: σ) X Y → TK X Y → m ≤ 2 * o → 100 ≤ f + 4 * o → SP X0 Y0 n p (lev + 1) o m k d (a :: σ) f X Y)
    (hop : opw a w) (hw : w = 21 ∨ w = 22) (hwn : ∀ X Y : X_, TK X Y → X.1 1 8 = w → ¬ Y.1 218 11 = 0) :
    ∀ (g x : Nat) (X1 Y1 : X_) (f' p1 o1 m1 j : Nat) (ρ : List Int32), 20 < g + x → SQ X0 Y0 n p1 o1 m1 (k + 1) (d + j) 1 (List.replicate j 20 ++ ρ) σ X1 Y1 → TK X1 Y1 → o + 1 + x ≤ o1 → m1 + 1 + 2 * o ≤ m + 2 * o1 → f + 4 * o + 1 ≤ f' + 4 * o1 → shp lev ρ → kyc (lev + 1) X1 → SO X0 Y0 n lev o m k d σ f (lz1 (fun L15 x2 => (it (20 ≤ x2) (re 1) (gI 1 8 fun v3 => (it (v3 = w) (ca fX10_next fun _ => (ca (R (nI d)) fun v4 => (it (v4 = 0) (re 0) (ca (fX7_addStep w 0 0) fun _ => (L15 (x2 + 1)))))) (re 1))))) g (nI x) X1) (kSL f' 1 Y1) := by
  intro g
  induction g with
  | zero =>
    intro x X1 Y1 f' p1 o1 m1 j ρ hx h K ho _ _ _ _
    have : o1 ≤ 20 := h.2.2.1.1.2.2
    omega
  | succ g ih =>
    intro x X1 Y1 f' p1 o1 m1 j ρ hx h K ho hm1 hf1 hρ hk
    have o20 : o1 ≤ 20 := h.2.2.1.1.2.2
    rw [lz1_s, it_f (show ¬ 20 ≤ nI x from fun z => absurd ((nI_leI (a := 20) (by decide) (by omega)).mp z) (by omega)), gI_e]
    by_cases c : X1.1 1 8 = w
    · rw [it_t c]
      obtain ⟨X2, Y2, p2, n2, b2, h2, K2⟩ := hbh _ _ _ _ _ _ _ _ h K c hρ
      obtain ⟨f', rfl⟩ : ∃ q, f' = q + 1 := ⟨f' - 1, by omega⟩
      rw [ca_s n2, st_bh h.2.2.2.2.2.2 (hwn _ _ K c) b2, if_neg (by decide)]
      rcases hR p2 o1 m1 (k + 1) (a :: σ) f' X2 Y2 (hsp _ _ _ _ _ _ _ h2 K2 (by omega) (by omega)) with ⟨X4, Y4, r1, r2, r3⟩ | ⟨X4, Y4, f2, p4, o4, m4, j4, ρ4, r1, r2, h4, K4, g1, g2, g3, g4, g5⟩
      · exact SO.bad (by rw [ca_s r1, it_t rfl]; rfl) r2 r3
      · have o4' : o4 ≤ 20 := h4.2.2.1.1.2.2
        obtain ⟨X5, a1, a2, -, a4, a5⟩ := h4.tell (w := w) (k' := k + 1) (by omega) hop (Or.inr ⟨hw, by omega, rfl⟩)
        rw [ca_s r1, it_f (by decide), ca_s a1, nI_1, r2]
        rw [List.append_assoc] at a2
        exact ih (x + 1) X5 Y4 f2 p4 o4 (m4 + 1) j4 (ρ4 ++ [a]) (by omega) a2 (K4.x a4 (by rw [a5])) (by omega) (by omega) (by omega) (hsh _ g4) (hkc _ _ a4 g5)
    · rw [it_f c]
      exact Or.inr ⟨X1, Y1, f', p1, o1, m1, j, ρ, rfl, rfl, h, K, by omega, hm1, hf1, hρ, hky _ hk c⟩
theorem r_all {f : Nat} {R : Int32 → RM Int32} (h : SP X0 Y0 n p 1 o m k d σ f X Y)
    (hR : ∀ p o m k σ f X Y, SP X0 Y0 n p 2 o m k d σ f X Y → SO X0 Y0 n 2 o m k d σ f (R (nI d) X) (kSL f 1 Y)) : SO X0 Y0 n 1 o m k d σ f (gX7_readAll R (nI d) X) (kSL f 1 Y) := by
  obtain ⟨h0, K, hm, hf, hd, hσ, hl⟩ := h
  have hs : ∀ a s, σ = a :: s → ¬ a = 20 ∧ ¬ a = 21 := by
    rcases hl with e | ⟨-, e⟩ | ⟨e, -⟩
    · exact absurd e (by decide)
    · exact e
    · exact absurd e (by decide)
  unfold gX7_readAll
  rcases hR p o m k σ f X Y ⟨h0, K, hm, hf, hd, by omega, Or.inl rfl⟩ with ⟨X4, Y4, r1, r2, r3⟩ | ⟨X4, Y4, f2, p4, o4, m4, j4, ρ4, r1, r2, h4, K4, g1, g2, g3, g4, g5⟩
  · exact SO.bad (by rw [ca_s r1, it_t rfl]; rfl) r2 r3
  · rw [ca_s r1, it_f (by decide), r2]
    have g4 : ρ4 = [] := g4
    exact r_lp (lev := 1) (w := 22) (a := 21) hm hf hR (fun p o m k j ρ X Y a b c e => bh_and a b c e hs (by omega)) (fun X _ z => z) (fun _ _ _ _ => trivial) (fun ρ z => by have z : ρ = [] := z; rw [z]; exact Or.inr rfl) (fun p o m k f X Y a b c e => ⟨a, b, c, e, hd, by rw [List.length_cons]; omega, Or.inl rfl⟩) (Or.inr (Or.inl ⟨rfl, rfl⟩)) (Or.inr rfl) (fun X Y K z => K.wn (q := 22) (by decide) z) FU 0 X4 Y4 f2 p4 o4 m4 j4 ρ4 (by rw [FU_eq]; omega) h4 K4 (by omega) g2 g3 (Or.inl g4) trivial
theorem r_cond {f : Nat} {R : Int32 → RM Int32} (h : SP X0 Y0 n p 0 o m k d σ f X Y)
    (hR : ∀ p o m k σ f X Y, SP X0 Y0 n p 1 o m k d σ f X Y → SO X0 Y0 n 1 o m k d σ f (R (nI d) X) (kSL f 1 Y)) : SO X0 Y0 n 0 o m k d σ f (gX7_readCond R (nI d) X) (kSL f 1 Y) := by
  obtain ⟨h0, K, hm, hf, hd, hσ, hl⟩ := h
  have hs : ∀ a s, σ = a :: s → ¬ a = 20 ∧ ¬ a = 21 ∧ ¬ a = 22 := by
    rcases hl with e | ⟨e, -⟩ | ⟨-, e⟩
    · exact absurd e (by decide)
    · exact absurd e (by decide)
    · exact e
  unfold gX7_readCond
  rcases hR p o m k σ f X Y ⟨h0, K, hm, hf, hd, by omega, Or.inr (Or.inl ⟨rfl, fun a s e => ⟨(hs a s e).1, (hs a s e).2.1⟩⟩)⟩ with ⟨X4, Y4, r1, r2, r3⟩ | ⟨X4, Y4, f2, p4, o4, m4, j4, ρ4, r1, r2, h4, K4, g1, g2, g3, g4, g5⟩
  · exact SO.bad (by rw [ca_s r1, it_t rfl]; rfl) r2 r3
  · rw [ca_s r1, it_f (by decide), r2]
    have g4 : ρ4 = [] ∨ ρ4 = [21] := g4
    refine r_lp (lev := 0) (w := 21) (a := 22) hm hf hR (fun p o m k j ρ X Y a b c e => bh_or a b c e hs (by omega)) (fun X a z => ⟨a, z⟩) (fun X X' e a => ?_) (fun ρ z => ?_) (fun p o m k f X Y a b c e => ⟨a, b, c, e, hd, by rw [List.length_cons]; omega, Or.inr (Or.inl ⟨rfl, fun a s e => by obtain ⟨rfl, -⟩ := List.cons.inj e; exact ⟨by decide, by decide⟩⟩)⟩) (Or.inr (Or.inr ⟨rfl, rfl⟩)) (Or.inl rfl) (fun X Y K z => K.wn (q := 21) (by decide) z) FU 0 X4 Y4 f2 p4 o4 m4 j4 ρ4 (by rw [FU_eq]; omega) h4 K4 (by omega) g2 g3 ?_ g5
    · show ¬ X'.1 1 8 = nI 22
      rw [e]; exact a
    · rcases z with z | z <;> rw [z]
      · exact Or.inr (Or.inr (Or.inl rfl))
      · exact Or.inr (Or.inr (Or.inr rfl))
    · rcases g4 with z | z
      · exact Or.inl z
      · exact Or.inr (Or.inl z)
theorem r_sen {Q V : m_V} (hW : Wd (bP X0 4) (bPJ X0 4) V Q (Y0.1 220) (Y0.2.1 223)) : ∀ N : Nat, (∀ d p o m k σ f X Y, 3 * (10 - d) ≤ N → SP X0 Y0 n p 0 o m k d σ f X Y → SO X0 Y0 n 0 o m k d σ f (fS N 0 (nI d) X) (kSL f 1 Y)) ∧ (∀ d p o m k σ f X Y, 3 * (10 - d) ≤ N + 1 → SP X0 Y0 n p 1 o m k d σ f X Y → SO X0 Y0 n 1 o m k d σ f (fS N 1 (nI d) X) (kSL f 1 Y)) ∧ (∀ d p o m k σ f X Y, 3 * (10 - d) ≤ N + 2 → SP X0 Y0 n p 2 o m k d σ f X Y → SO X0 Y0 n 2 o m k d σ f (fS N 2 (nI d) X) (kSL f 1 Y)) := by
  intro N
  induction N with
  | zero => exact ⟨fun d p o m k σ f X Y hN h => by have := h.2.2.2.2.1; omega, fun d p o m k σ f X Y hN h => by have := h.2.2.2.2.1; omega, fun d p o m k σ f X Y hN h => by have := h.2.2.2.2.1; omega⟩
  | succ N ih =>
    refine ⟨fun d p o m k σ f X Y hN h => ?_, fun d p o m k σ f X Y hN h => ?_, fun d p o m k σ f X Y hN h => ?_⟩
    · exact r_cond (R := fS N 1) h (fun p o m k σ f X Y q => ih.2.1 d p o m k σ f X Y (by omega) q)
    · exact r_all (R := fS N 2) h (fun p o m k σ f X Y q => ih.2.2 d p o m k σ f X Y (by omega) q)
    · exact r_one (C := fS N 0) (R := fS N 2) hW h (fun p o m k σ f X Y q => ih.1 (d + 1) p o m k σ f X Y (by omega) q) (fun p o m k σ f X Y q => ih.2.2 (d + 1) p o m k σ f X Y (by omega) q)
end SH
