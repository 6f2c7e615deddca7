/-! a sentence: both read one -/
section SG
variable {X Y X1 Y1 X0 Y0 : X_} {n p o m k d : Nat} {wh : Int32} {π σ : List Int32}
def shp : Nat → List Int32 → Prop
  | 2, ρ => ρ = []
  | 1, ρ => ρ = [] ∨ ρ = [21]
  | _, ρ => ρ = [] ∨ ρ = [21] ∨ ρ = [22] ∨ ρ = [21, 22]
def kyc : Nat → X_ → Prop
  | 2, _ => True
  | 1, X => ¬ X.1 1 8 = nI 22
  | _, X => ¬ X.1 1 8 = nI 22 ∧ ¬ X.1 1 8 = nI 21
/-- how reading a piece ends -/
def SO (X0 Y0 : X_) (n lev o m k d : Nat) (σ : List Int32) (f : Nat) (r u : Option (Int32 × X_)) : Prop := (∃ X1 Y1, r = some (0, X1) ∧ u = some ((-1) - Y1.1 218 16, Y1) ∧ LXq X0 Y0 X1 Y1) ∨ ∃ X1 Y1 f' p1 o1 m1 j ρ, r = some (1, X1) ∧ u = kSL f' 1 Y1 ∧ SQ X0 Y0 n p1 o1 m1 (k + 1) (d + j) 1 (List.replicate j 20 ++ ρ) σ X1 Y1 ∧ TK X1 Y1 ∧ o < o1 ∧ m1 + 1 + 2 * o ≤ m + 2 * o1 ∧ f + 4 * o + 1 ≤ f' + 4 * o1 ∧ shp lev ρ ∧ kyc lev X1
/-- what is asked ahead of a piece -/
def SP (X0 Y0 : X_) (n p lev o m k d : Nat) (σ : List Int32) (f : Nat) (X Y : X_) : Prop := SQ X0 Y0 n p o m k d 0 [] σ X Y ∧ TK X Y ∧ m ≤ 2 * o ∧ 100 ≤ f + 4 * o ∧ (1 ≤ d ∧ d ≤ 9) ∧ σ.length ≤ 3 * (d - 1) + lev ∧ (lev = 2 ∨ lev = 1 ∧ (∀ a s, σ = a :: s → ¬ a = 20 ∧ ¬ a = 21) ∨ lev = 0 ∧ ∀ a s, σ = a :: s → ¬ a = 20 ∧ ¬ a = 21 ∧ ¬ a = 22)
theorem SO.bad {lev f : Nat} {r u : Option (Int32 × X_)} (h1 : r = some (0, X1)) (h2 : u = some ((-1) - Y1.1 218 16, Y1)) (h : LXq X0 Y0 X1 Y1) : SO X0 Y0 n lev o m k d σ f r u := Or.inl ⟨X1, Y1, h1, h2, h⟩
theorem SQ.look {dp : Nat} (h : SQ X0 Y0 n p o m k dp wh π σ X Y) (K : TK X Y) {s f c : Nat} {a af am : Int32} (ha : a = nI s) (hs : s < 8) (hc : bP X0 4 1 s = nI c) (h12 : c ≤ 12) (hf : af = nI f) (hfc : f + c ≤ 41) (hm : am = nI c) (hN : ∀ i, i < c → wr (bPJ X0 4 2 (s * 12 + i)) (Y0.2.1 223 (f + i))) :
    (∃ X1 Y1, fX10_named 4 a X = some (-1, X1) ∧ fX12_looksAt af am Y = some (0, Y1) ∧ FL X Y X1 Y1) ∨ ∃ k, k < c ∧ fX10_named 4 a X = some (nI k, X) ∧ fX12_looksAt af am Y = some (1, sI Y 218 18 (nI k)) ∧ X.1 1 4 = 1 :=
  r_look h.b K ha hs (by rw [h.P.1]; exact hc) h12 hf (by omega) hm (fun i hi => by rw [h.P.2, h.S.2]; exact hN i hi)
theorem k_namQ {dp : Nat} (h : SQ X0 Y0 n p o m k dp wh π σ X Y) {s c : Nat} {a : Int32} (ha : a = nI s) (hs : s < 8) (hc : bP X0 4 1 s = nI c) (h12 : c ≤ 12) (hn : fX10_next X = some ((), X1)) : fX10_nextNamed 4 a X = fX10_named 4 a X1 := (k_nextNamed h.b.ok (by decide) ha hs (by rw [h.P.1]; exact hc) h12).trans (ca_s hn)
def cdY (Y : X_) (c : Nat) (a b t : Int32) : X_ := sI (sI (sI (sI Y 222 (3 * c) a) 222 (3 * c + 1) b) 222 (3 * c + 2) t) 218 42 (nI (c + 1))
theorem code_e {c : Nat} {a b t : Int32} (h : Y.1 218 42 = nI c) (hc : c < 45) : fX12_code a b t Y = some ((), cdY Y c a b t) := by
  unfold fX12_code
  rw [gI_e, h, ix_lm, wA_n (by omega) (by decide), gI_e, sI_row (by decide), h, ix_lm, ix_al, wA_n (by omega) (by decide), gI_e, sI_row (by decide), sI_row (by decide), h, ix_lm, ix_al, wA_n (by omega) (by decide), gI_e, sI_row (by decide), sI_row (by decide), sI_row (by decide), h, pI_e, nI_1]; rfl
theorem gS.cd {c : Nat} {a b t v : Int32} (h : gS Y Y1) : gS (cdY (sI Y 218 46 v) c a b t) (cdY (sI Y1 218 46 v) c a b t) := by
  unfold cdY
  refine ⟨fun q hq => ?_, fun j h4 hj => ?_, h.2.2.1, h.2.2.2⟩
  · rw [sI_row hq, sI_row hq]
    by_cases e : q = 222
    · subst e
      rw [sI_up, sI_up, sI_up, sI_up, sI_up, sI_up, sI_row hq, sI_row hq, h.1 222 hq]
    · rw [sI_row e, sI_row e, sI_row e, sI_row e, sI_row e, sI_row e, sI_row hq, sI_row hq, h.1 q hq]
  · by_cases e : j = 42
    · subst e; rw [sI_eq, sI_eq]
    · have q222 : ∀ (Z : X_) (i : Nat) (w : Int32), (sI Z 222 i w).1 218 j = Z.1 218 j := fun _ _ _ => congrFun (sI_row (show ¬ (218 : Nat) = 222 by decide)) j
      have q42 : ∀ (Z : X_) (w : Int32), (sI Z 218 42 w).1 218 j = Z.1 218 j := fun _ _ => sI_ne (by omega)
      rw [q42, q42, q222, q222, q222, q222, q222, q222]
      by_cases e2 : j = 46
      · subst e2; rw [sI_eq, sI_eq]
      · rw [sI_ne (by omega), sI_ne (by omega), h.2.1 j h4 hj]
theorem r_one {Q V : m_V} {C R : Int32 → RM Int32} {f : Nat} (hW : Wd (bP X0 4) (bPJ X0 4) V Q (Y0.1 220) (Y0.2.1 223)) (h : SP X0 Y0 n p 2 o m k d σ f X Y)
    (hC : ∀ p o m k σ f X Y, SP X0 Y0 n p 0 o m k (d + 1) σ f X Y → SO X0 Y0 n 0 o m k (d + 1) σ f (C (nI (d + 1)) X) (kSL f 1 Y))
    (hR : ∀ p o m k σ f X Y, SP X0 Y0 n p 2 o m k (d + 1) σ f X Y → SO X0 Y0 n 2 o m k (d + 1) σ f (R (nI (d + 1)) X) (kSL f 1 Y)) : SO X0 Y0 n 2 o m k d σ f (gX7_readOne C R (nI d) X) (kSL f 1 Y) := by
  obtain ⟨h0, K, hm, hf, ⟨d1, d9⟩, hσ, -⟩ := h
  have ok := hW.ok
  have bd := ok.bd
  have hco := k_one K C R (nI d)
  have hro := e_operand K
  have o20 : o ≤ 20 := h0.2.2.1.1.2.2
  have ox : X.1 135 1 = nI o := h0.2.2.1.1.1
  have oy : Y.1 218 43 = nI o := h0.2.2.1.1.2.1
  have dy : Y.1 218 45 = nI d := h0.2.2.2.2.2.1
  have w46 : Y.1 218 46 = 0 := h0.2.2.2.2.2.2
  obtain ⟨f, rfl⟩ : ∃ g, f = g + 1 := ⟨f - 1, by omega⟩
  -- both too much
  have over : ∀ v1 v2 v3 u1 u2, (¬ o < 20 ∨ ¬ d ≤ 8) → gX7_readOne C R (nI d) X = n_oneB C R (nI d) v1 v2 X → fX12_operand Y = n_opB u1 u2 v3 Y → SO X0 Y0 n 2 o m k d σ (f + 1) (gX7_readOne C R (nI d) X) (kSL (f + 1) 1 Y) := fun v1 v2 v3 u1 u2 hov hc hr => by
    have e1 : gX7_readOne C R (nI d) X = some (0, wX X 4) := by
      rw [hc]
      unfold n_oneB
      rw [gI_e, ox, it_e]
      by_cases c : o < 20
      · rw [if_neg (show ¬ 20 ≤ nI o from fun z => absurd ((nI_leI (a := 20) (by decide) (by omega)).mp z) (by omega)), it_f (show ¬ nI d ≤ 8 from fun z => absurd ((nI_leI (b := 8) (by omega) (by decide)).mp z) (by omega)), ca_s (e_wrong 4), rz_0]
      · rw [if_pos (show 20 ≤ nI o from nI_le (a := 20) (by omega) (by omega)), ca_s (e_wrong 4), rz_0]
    have e2 : fX12_operand Y = some (0, wY Y 4) := by
      rw [hr]
      unfold n_opB
      rw [gI_e, oy, it_e]
      by_cases c : o < 20
      · rw [if_neg (ne_lit (m := 20) (k := 20) rfl c (by decide)), gI_e, dy, it_f (show ¬ nI d ≤ 8 from fun z => absurd ((nI_leI (b := 8) (by omega) (by decide)).mp z) (by omega)), ca_s (e_bad 4), rz_0]
      · rw [if_pos (show nI o = 20 by rw [show o = 20 by omega]; rfl), ca_s (e_bad 4), rz_0]
    exact SO.bad e1 ((st_op w46 e2).trans (if_pos rfl)) (h0.fail (FL.w K.1))
  -- the body, where there is room
  have bodyC : ∀ v1 v2, o < 20 → d ≤ 8 → n_oneB C R (nI d) v1 v2 X = (it (v1 = 0) (it (v2 = 23) (ca fX10_next fun _ => (ca (R (nI (d + 1))) fun v7 => (it (v7 = 0) (re 0) (ca (fX7_addStep 23 0 0) fun _ => (re 1))))) (ca (fX7_readPlainOne v2) fun v6 => (it (v6 = 0) (re 0) (ca fX10_next fun _ => (re 1))))) (ca fX10_next fun _ => (ca (C (nI (d + 1))) fun v8 => (it (v8 = 0) (re 0) (ca (fX10_mustBe 41) fun v9 => (it (v9 = 0) (re 0) (ca fX10_next fun _ => (re 1)))))))) (sI X 135 1 (nI (o + 1))) := fun v1 v2 c1 c2 => by
    unfold n_oneB
    rw [gI_e, ox, it_f (show ¬ 20 ≤ nI o from fun z => absurd ((nI_leI (a := 20) (by decide) (by omega)).mp z) (by omega)), it_t (show nI d ≤ 8 from nI_le (b := 8) c2 (by decide)), gI_e, ox, pI_e, nI_1, nI_1]
  by_cases room : ¬ (o < 20 ∧ d ≤ 8)
  · have hov : ¬ o < 20 ∨ ¬ d ≤ 8 := by omega
    by_cases c1 : t_isSign (bT X) 40 = true
    · rw [if_pos c1] at hco hro
      exact over _ _ _ _ _ hov hco hro
    rw [if_neg c1] at hco hro
    by_cases c2 : X.1 1 8 = nI 23
    · rw [if_pos c2] at hco hro
      exact over _ _ _ _ _ hov hco hro
    rw [if_neg c2] at hco hro
    by_cases c3 : ∃ l, l < 8 ∧ X.1 1 8 = nI (24 + l)
    · rw [if_pos c3] at hco hro
      exact over _ _ _ _ _ hov hco hro
    rw [if_neg c3] at hco hro
    exact SO.bad hco ((st_op w46 hro).trans (if_pos rfl)) (h0.fail (FL.w K.1))
  · obtain ⟨lo20, d8⟩ : o < 20 ∧ d ≤ 8 := by omega
    have h1 := h0.ones lo20
    have bodyR : ∀ v1 v2 v3 Y2, fX12_next (sI Y 218 43 (nI (o + 1))) = some ((), Y2) → n_opB v1 v2 v3 Y = (it (v1 = 0) (it (v2 = 0) (pI 218 46 1 (it (3 ≤ v3) (it (5 ≤ v3) (gI 218 11 fun v13 => (it (v13 = 3) (gI 218 14 fun v15 => (it (v15 < 60) (ca (fX12_bad 1) fun v16 => (rz v16)) (gI 218 14 fun v17 => (it (v17 ≤ 62) (gI 218 14 fun v18 => (ca fX12_next fun _ => (gI 218 11 fun v19 => (it (v19 = 2) (gI 218 14 fun v20 => (ca (fX12_code v3 v18 v20) fun _ => (ca fX12_next fun _ => (re 1)))) (ca (fX12_bad 1) fun v21 => (rz v21)))))) (ca (fX12_bad 1) fun v22 => (rz v22)))))) (ca (fX12_bad 1) fun v14 => (rz v14)))) (jo1 (fun w23 => (it (w23 = 0) (re 0) (gI 218 18 fun v24 => (ca (fX12_code v3 0 v24) fun _ => (ca fX12_next fun _ => (re 1)))))) (fun J181 => (it (v3 = 3) (rA 220 469 0 fun v27 => (ca (fX12_looksAt 0 v27) fun v28 => (J181 v28))) (rA 220 469 4 fun v25 => (ca (fX12_looksAt 26 v25) fun v26 => (J181 v26))))))) (ca (fX12_code v3 0 0) fun _ => (re 1)))) (gI 218 44 fun v29 => (jo2 (fun w30 w31 => (wA 234 45 w31 w30 (gI 218 44 fun v32 => (pI 218 44 (v32 + 1) (gI 218 45 fun v33 => (pI 218 45 (v33 + 1) (re 1))))))) (fun J103 => (it (v1 = 0) (J103 23 v29) (J103 20 v29)))))) (gI 218 44 fun v8 => (jo2 (fun w9 w10 => (wA 234 45 w10 w9 (gI 218 44 fun v11 => (pI 218 44 (v11 + 1) (gI 218 45 fun v12 => (pI 218 45 (v12 + 1) (re 1))))))) (fun J103 => (it (v1 = 0) (J103 23 v8) (J103 20 v8)))))) Y2 := fun v1 v2 v3 Y2 hn => by
      unfold n_opB
      rw [gI_e, oy, it_f (ne_lit (m := 20) (k := 20) rfl lo20 (by decide)), gI_e, dy, it_t (show nI d ≤ 8 from nI_le (b := 8) d8 (by decide)), gI_e, oy, pI_e, nI_1, ca_s hn]
    -- something is laid upon the stack
    have lay : ∀ (a : Int32) (p2 : Nat) (X2 Y2 : X_), SQ X0 Y0 n p2 (o + 1) m k d 0 [] σ X2 Y2 → (wA 234 45 (nI σ.length) a (gI 218 44 fun v32 => (pI 218 44 (v32 + 1) (gI 218 45 fun v33 => (pI 218 45 (v33 + 1) (re (1 : Int32))))))) Y2 = some (1, sI (sI (sI Y2 234 σ.length a) 218 44 (nI (σ.length + 1))) 218 45 (nI (d + 1))) ∧ SQ X0 Y0 n p2 (o + 1) m k (d + 1) 0 [] (a :: σ) X2 (sI (sI (sI Y2 234 σ.length a) 218 44 (nI (σ.length + 1))) 218 45 (nI (d + 1))) := fun a p2 X2 Y2 h2 => by
      have t44 : Y2.1 218 44 = nI σ.length := by have := h2.2.2.2.2.1.1; rw [List.length_nil, Nat.zero_add] at this; exact this
      refine ⟨?_, (h2.push a (by omega)).deep (d + 1)⟩
      rw [wA_n (by omega) (by decide), gI_e, sI_row (by decide), t44, pI_e, nI_1, gI_e, sI_ne (by omega), sI_row (by decide), h2.2.2.2.2.2.1, pI_e, nI_1]; rfl
    by_cases c1 : t_isSign (bT X) 40 = true
    · -- a bracket
      rw [if_pos c1] at hco hro
      rw [bodyC _ _ lo20 d8, it_f (by decide)] at hco
      obtain ⟨X2, Y2, p2, n2, n2', h2, K2, -⟩ := h1.next
      have t44 : Y2.1 218 44 = nI σ.length := by have := h2.2.2.2.2.1.1; rw [List.length_nil, Nat.zero_add] at this; exact this
      obtain ⟨l1, l2⟩ := lay 23 p2 X2 Y2 h2
      rw [bodyR _ _ _ Y2 n2', it_t rfl, it_f (by decide), gI_e, t44, jo2_e] at hro
      dsimp only at hro
      rw [it_t rfl, l1] at hro
      rw [ca_s n2] at hco
      rw [st_op w46 hro, if_neg (by decide)]
      generalize hY3 : sI (sI (sI Y2 234 σ.length 23) 218 44 (nI (σ.length + 1))) 218 45 (nI (d + 1)) = Y3 at l2
      have K3 : TK X2 Y3 := by
        rw [← hY3]
        exact K2.y (by rw [sI_ne (by decide), sI_ne (by decide), sI_row (by decide)]) (by rw [sI_ne (by decide), sI_ne (by decide), sI_row (by decide)]) (by rw [sI_ne (by decide), sI_ne (by decide), sI_row (by decide)]) rfl
      rcases hC p2 (o + 1) m k (23 :: σ) f X2 Y3 ⟨l2, K3, by omega, by omega, ⟨by omega, by omega⟩, by rw [List.length_cons]; omega, Or.inr (Or.inr ⟨rfl, fun a s e => by obtain ⟨rfl, -⟩ := List.cons.inj e; exact ⟨by decide, by decide, by decide⟩⟩)⟩ with ⟨X4, Y4, r1, r2, r3⟩ | ⟨X4, Y4, f', p4, o4, m4, j, ρ, r1, r2, h4, K4, g1, g2, g3, g4, g5⟩
      · exact SO.bad (by rw [hco, ca_s r1, it_t rfl]; rfl) r2 r3
      · rw [ca_s r1, it_f (by decide)] at hco
        have o4' : o4 ≤ 20 := h4.2.2.1.1.2.2
        obtain ⟨f', rfl⟩ : ∃ g, f' = g + 1 := ⟨f' - 1, by omega⟩
        have w4 : Y4.1 218 46 = 1 := h4.2.2.2.2.2.2
        have hρ : ∀ a ∈ ρ, a = 21 ∨ (a = 22 ∧ (22 : Int32) = 22) := fun a ha => by
          rcases g4 with e | e | e | e <;> rw [e] at ha
          · exact absurd ha (List.not_mem_nil)
          · rcases List.mem_cons.mp ha with z | z
            · exact Or.inl z
            · exact absurd z (List.not_mem_nil)
          · rcases List.mem_cons.mp ha with z | z
            · exact Or.inr ⟨z, rfl⟩
            · exact absurd z (List.not_mem_nil)
          · rcases List.mem_cons.mp ha with z | z
            · exact Or.inl z
            · rcases List.mem_cons.mp z with z | z
              · exact Or.inr ⟨z, rfl⟩
              · exact absurd z (List.not_mem_nil)
        have hρ0 : ∀ a s, ρ ++ (23 :: σ) = a :: s → ¬ a = 20 := fun a s e => by
          rcases g4 with q | q | q | q <;> rw [q] at e <;> obtain ⟨rfl, -⟩ := List.cons.inj e <;> decide
        have lρ : (List.replicate j (20 : Int32) ++ ρ).length + (23 :: σ).length ≤ 40 := h4.2.2.2.2.1.2.2
        rw [List.length_append, List.length_replicate] at lρ
        obtain ⟨Y5, y1, y2, y3, y4⟩ := e_nots FU h4 (by rw [FU_eq]; omega) hρ0
        obtain ⟨Y6, z1, z2, z3, z4⟩ := e_joins (till := 22) FU y2 (by rw [FU_eq]; omega) hρ (fun a s e => by obtain ⟨rfl, -⟩ := List.cons.inj e; exact ⟨by decide, by decide⟩)
        have y1 : fX12_nots Y4 = some ((), Y5) := y1
        have z1 : fX12_joins 22 Y5 = some ((), Y6) := z1
        have K5 : TK X4 Y5 := K4.y (y3 11 (by decide) (by decide) (by decide)) (y3 12 (by decide) (by decide) (by decide)) (y3 14 (by decide) (by decide) (by decide)) (by rw [y4])
        have K6 : TK X4 Y6 := K5.y (z3 11 (by decide) (by decide)) (z3 12 (by decide) (by decide)) (z3 14 (by decide) (by decide)) (by rw [z4])
        have mb := k_mustBe (X := X4) 41
        have sgr := e_isSignR K6 (k0 := 41) (c := 41) rfl (Or.inr (Or.inr (Or.inl rfl)))
        have t6 : Y6.1 218 44 = nI (σ.length + 1) := by have := z2.2.2.2.2.1.1; rw [List.length_nil, Nat.zero_add, List.length_cons] at this; exact this
        by_cases en : X4.1 1 4 = 0
        · -- the text ends ahead of the bracket's end
          have ns : t_isSign (bT X4) 41 = false := by rw [t_isSign_e, decide_eq_false (fun q => by rw [en] at q; exact absurd q.1 (by decide))]
          rw [ns, if_neg (by decide)] at mb
          rw [ca_s mb, it_t rfl] at hco
          have := st_end (f := f') w4 (K4.end.mp en) y1 z1
          rw [t6, if_neg (show ¬ nI (σ.length + 1) ≤ 0 from fun q => absurd ((nI_leI (b := 0) (by omega) (by decide)).mp q) (by omega))] at this
          exact SO.bad hco (r2.trans this) (z2.fail (FL.w K6.1))
        · have nk : X4.1 1 4 = 0 → False := en
          have bh : fX12_behind Y4 = (ca (fX12_isSign 41) fun v9 => (it (v9 = 0) (ca (fX12_bad 1) fun v10 => (rz v10)) (gI 218 44 fun v11 => (it (v11 = 0) (ca (fX12_bad 1) fun v14 => (rz v14)) (gI 218 44 fun v12 => (pI 218 44 (v12 - 1) (gI 218 45 fun v13 => (pI 218 45 (v13 - 1) (ca fX12_next fun _ => (re 1)))))))))) Y6 := by
            unfold fX12_behind
            rw [ca_s y1, ca_s (e_isWord K5 (k := 22) (by decide) kw_d.2.1.symm), decide_eq_false g5.1, it_t (show b2 false = 0 from rfl), ca_s (e_isWord K5 (k := 21) (by decide) kw_d.1.symm), decide_eq_false g5.2, it_t (show b2 false = 0 from rfl), ca_s z1]
          rw [ca_s sgr] at bh
          cases sg : t_isSign (bT X4) 41
          · rw [sg, if_neg (by decide)] at mb
            rw [ca_s mb, it_t rfl] at hco
            rw [sg, it_t (show b2 false = 0 from rfl), ca_s (e_bad 1), rz_0] at bh
            exact SO.bad hco (r2.trans ((st_bh w4 (fun q => en (K4.end.mpr q)) bh).trans (if_pos rfl))) (z2.fail (FL.w K6.1))
          · rw [sg, if_pos rfl] at mb
            rw [ca_s mb, it_f (by decide)] at hco
            have h7 := (z2.pop).deep d
            obtain ⟨X8, Y8, p8, n8, n8', h8, K8, -⟩ := h7.next
            rw [ca_s n8] at hco
            have sub1 : ∀ q : Nat, nI (q + 1) - 1 = nI q := fun q => by rw [show nI (q + 1) - 1 = nI (q + 1 - 1) from ix_sub (c := 1) (by omega), Nat.add_sub_cancel]
            rw [sg, it_f (show ¬ b2 true = 0 by decide), gI_e, t6, it_f (nI_n0 (by omega) (by omega)), gI_e, t6, sub1, pI_e, gI_e, sI_ne (by omega), z2.2.2.2.2.2.1, sub1, pI_e, ca_s n8'] at bh
            have w8 := (st_bh (f := f') w4 (fun q => en (K4.end.mpr q)) bh).trans (if_neg (by decide))
            refine Or.inr ⟨X8, Y8, f', p8, o4, m4, 0, [], hco, r2.trans w8, ?_, K8, by omega, by omega, by omega, rfl, trivial⟩
            rw [List.replicate_zero, List.nil_append, Nat.add_zero]
            exact h8
    rw [if_neg c1] at hco hro
    by_cases c2 : X.1 1 8 = nI 23
    · -- not
      rw [if_pos c2] at hco hro
      rw [bodyC _ _ lo20 d8, it_t rfl, it_t rfl] at hco
      obtain ⟨X2, Y2, p2, n2, n2', h2, K2, -⟩ := h1.next
      have t44 : Y2.1 218 44 = nI σ.length := by have := h2.2.2.2.2.1.1; rw [List.length_nil, Nat.zero_add] at this; exact this
      obtain ⟨l1, l2⟩ := lay 20 p2 X2 Y2 h2
      rw [bodyR _ _ _ Y2 n2', it_f (by decide), gI_e, t44, jo2_e] at hro
      dsimp only at hro
      rw [it_f (by decide), l1] at hro
      rw [ca_s n2] at hco
      rw [st_op w46 hro, if_neg (by decide)]
      generalize hY3 : sI (sI (sI Y2 234 σ.length 20) 218 44 (nI (σ.length + 1))) 218 45 (nI (d + 1)) = Y3 at l2
      have K3 : TK X2 Y3 := by
        rw [← hY3]
        exact K2.y (by rw [sI_ne (by decide), sI_ne (by decide), sI_row (by decide)]) (by rw [sI_ne (by decide), sI_ne (by decide), sI_row (by decide)]) (by rw [sI_ne (by decide), sI_ne (by decide), sI_row (by decide)]) rfl
      rcases hR p2 (o + 1) m k (20 :: σ) f X2 Y3 ⟨l2, K3, by omega, by omega, ⟨by omega, by omega⟩, by rw [List.length_cons]; omega, Or.inl rfl⟩ with ⟨X4, Y4, r1, r2, r3⟩ | ⟨X4, Y4, f', p4, o4, m4, j, ρ, r1, r2, h4, K4, g1, g2, g3, g4, -⟩
      · exact SO.bad (by rw [hco, ca_s r1, it_t rfl]; rfl) r2 r3
      · rw [ca_s r1, it_f (by decide)] at hco
        have o4' : o4 ≤ 20 := h4.2.2.1.1.2.2
        have g4 : ρ = [] := g4
        subst g4
        rw [List.append_nil] at h4
        obtain ⟨X5, a1, a2, -, a4, a5⟩ := h4.tell (w := 23) (k' := k + 1) (by omega) (Or.inl ⟨rfl, rfl⟩) (Or.inl ⟨rfl, by omega, rfl⟩)
        rw [ca_s a1] at hco
        refine Or.inr ⟨X5, Y4, f', p4, o4, m4 + 1, j + 1, [], hco, r2, ?_, K4.x a4 (by rw [a5]), by omega, by omega, by omega, rfl, trivial⟩
        rw [List.append_nil, show d + (j + 1) = d + 1 + j by omega, List.replicate_succ']
        exact a2
    rw [if_neg c2] at hco hro
    by_cases c3 : ∃ l, l < 8 ∧ X.1 1 8 = nI (24 + l)
    · rw [if_pos c3] at hco hro
      obtain ⟨l, l8, hl⟩ := c3
      have e24 : nI (24 + l) - 24 = nI l := by rw [show nI (24 + l) - 24 = nI (24 + l - 24) from ix_sub (c := 24) (by omega), Nat.add_sub_cancel_left]
      have e23 : ¬ nI (24 + l) = 23 := fun z => absurd ((nI_eq (b := 23) (by omega) (by decide)).mp z) (by omega)
      rw [hl, bodyC _ _ lo20 d8, it_t rfl, it_f e23] at hco
      rw [hl, e24] at hro
      have fin : ∀ {X5 Y5 : X_} {p5 : Nat}, gX7_readOne C R (nI d) X = some (1, X5) → fX12_operand Y = some (1, Y5) → SQ X0 Y0 n p5 (o + 1) (m + 1) (k + 1) d 1 [] σ X5 Y5 → TK X5 Y5 → SO X0 Y0 n 2 o m k d σ (f + 1) (gX7_readOne C R (nI d) X) (kSL (f + 1) 1 Y) := fun {X5 Y5 p5} q1 q2 q3 q4 => by
        refine Or.inr ⟨X5, Y5, f, p5, o + 1, m + 1, 0, [], q1, (st_op w46 q2).trans (if_neg (by decide)), ?_, q4, by omega, by omega, by omega, rfl, trivial⟩
        rw [List.replicate_zero, List.nil_append, Nat.add_zero]
        exact q3
      have bad : ∀ {X5 Y5 : X_}, gX7_readOne C R (nI d) X = some (0, X5) → fX12_operand Y = some (0, Y5) → LXq X0 Y0 X5 Y5 → SO X0 Y0 n 2 o m k d σ (f + 1) (gX7_readOne C R (nI d) X) (kSL (f + 1) 1 Y) := fun q1 q2 q3 => SO.bad q1 ((st_op w46 q2).trans (if_pos rfl)) q3
      have k_o : k ≤ o := h0.2.2.2.1.2.2.2
      by_cases l3 : l < 3
      · -- plain
        have pl : fX7_readPlainOne (nI (24 + l)) = (ca (fX7_addStep (nI (24 + l)) 0 0) fun _ => (re 1)) := by
          have e27 : ¬ nI (24 + l) = 27 := fun z => absurd ((nI_eq (b := 27) (by omega) (by decide)).mp z) (by omega)
          have e28 : ¬ nI (24 + l) = 28 := fun z => absurd ((nI_eq (b := 28) (by omega) (by decide)).mp z) (by omega)
          funext Z
          unfold fX7_readPlainOne
          rw [it_f e27, it_f e28, it_t (show nI (24 + l) < 29 from (nI_ltI (b := 29) (by omega) (by decide)).mpr (by omega))]
        obtain ⟨Xa, Yc, b1, b2, b3, b4, b5, b6, b7⟩ := (h1.setw 1).leaf (l := l) (t := 0) (b := 0) (by omega) (by omega) l8 (fun z => by omega) (fun z => by omega) (fun z => by omega)
        have tb : TB Xa (sI Y 218 43 (nI (o + 1))) n 200 p := (h1.b).x b4.symm.symm (b3.2.1.1.1 2 (by decide) (by omega) |>.trans (h1.2.1.1.1 2 (by decide) (by omega)).symm) (by rw [b5])
        obtain ⟨Xb, Y2, p2, n1, n2, n3, K2, n5, n6, -, -, -, -, n11, n12⟩ := r_nextM tb
        have c42 : Y2.1 218 42 = nI m := by
          rw [n6.2.1 42 (by decide) (by omega)]
          have := h1.2.2.1.2.2.1
          rw [List.length_nil, Nat.sub_zero] at this
          exact this
        have yc : Yc = cdY (sI (sI Y 218 43 (nI (o + 1))) 218 46 1) m (nI l) 0 0 := by
          have := code_e (Y := sI (sI Y 218 43 (nI (o + 1))) 218 46 1) (a := nI l) (b := 0) (t := 0) (c := m) (by rw [sI_ne (by decide)]; have := h1.2.2.1.2.2.1; rw [List.length_nil, Nat.sub_zero] at this; exact this) (by omega)
          rw [this] at b2
          exact (Prod.mk.inj (Option.some.inj b2)).2.symm
        have gg : gS Yc (cdY (sI Y2 218 46 1) m (nI l) 0 0) := by rw [yc]; exact n6.cd
        have tb2 : TB Xb (cdY (sI Y2 218 46 1) m (nI l) 0 0) n 200 p2 := n3.y (by unfold cdY; rw [sI_ne (by decide), sI_row (by decide), sI_row (by decide), sI_row (by decide), sI_ne (by decide)]) (by unfold cdY; rw [sI_ne (by decide), sI_row (by decide), sI_row (by decide), sI_row (by decide), sI_ne (by decide)]) (by unfold cdY; rw [sI_ne (by decide), sI_row (by decide), sI_row (by decide), sI_row (by decide), sI_ne (by decide)]) (by unfold cdY; rw [sI_row (by decide), sI_row (by decide), sI_row (by decide), sI_row (by decide), sI_row (by decide)]) rfl
        have fy : ∀ j, ¬ j = 42 → ¬ j = 46 → (cdY (sI Y2 218 46 1) m (nI l) 0 0).1 218 j = Y2.1 218 j := fun j q1 q2 => by unfold cdY; rw [sI_ne (by omega), sI_row (by decide), sI_row (by decide), sI_row (by decide), sI_ne (by omega)]
        have sq := b3.tx tb2 n11 (by rw [fy 15 (by decide) (by decide), n12, b6 15 (by decide), sI_ne (by decide), sI_ne (by decide), sI_ne (by decide)]) n5 gg
        rw [pl] at hco
        refine fin (X5 := Xb) (Y5 := cdY (sI Y2 218 46 1) m (nI l) 0 0) ?_ ?_ sq (K2.y (fy 11 (by decide) (by decide)) (fy 12 (by decide) (by decide)) (fy 14 (by decide) (by decide)) rfl)
        · rw [hco, ca_s (w := 1) (X' := Xa) (by rw [ca_s b1]; rfl), it_f (by decide), ca_s n1]; rfl
        · rw [hro, bodyR _ _ _ Y2 n2, it_t rfl, it_t rfl, pI_e, it_f (show ¬ 3 ≤ nI l from fun z => absurd ((nI_leI (a := 3) (by decide) (by omega)).mp z) (by omega)), ca_s (code_e (by rw [sI_ne (by decide)]; exact c42) (by omega))]; rfl
      · by_cases l5 : l < 5
        · -- a name
          obtain ⟨X2, Y2, p2, n2, n2', h2, K2, -⟩ := h1.next
          have named : ∀ (s ff : Nat) (sI' : Int32), sI' = nI s → s < 8 → (s = 0 ∧ l = 3 ∨ s = 4 ∧ l = 4) → bP X0 4 1 s = nI (ct (bP X0 4) s) → ct (bP X0 4) s ≤ 12 → ff + ct (bP X0 4) s ≤ 41 → (∀ i, i < ct (bP X0 4) s → wr (bPJ X0 4 2 (s * 12 + i)) (Y0.2.1 223 (ff + i))) → (∀ v Z, fX10_named 4 sI' X2 = some (v, Z) → fX7_readPlainOne (nI (24 + l)) (sI X 135 1 (nI (o + 1))) = (it (v = (-1)) (re 0) (ca (fX7_addStep (nI (24 + l)) v 0) fun _ => (re 1))) Z) → (∀ v Z, fX12_looksAt (nI ff) (nI (ct (bP X0 4) s)) (sI Y2 218 46 1) = some (v, Z) → fX12_operand Y = (it (v = 0) (re 0) (gI 218 18 fun v24 => (ca (fX12_code (nI l) 0 v24) fun _ => (ca fX12_next fun _ => (re 1))))) Z) → SO X0 Y0 n 2 o m k d σ (f + 1) (gX7_readOne C R (nI d) X) (kSL (f + 1) 1 Y) := fun s ff sI' es s8 hsl hc h12 hff hN hcm hrf => by
            have h2w := h2.setw 1
            have K2w : TK X2 (sI Y2 218 46 1) := K2.y (by rw [sI_ne (by decide)]) (by rw [sI_ne (by decide)]) (by rw [sI_ne (by decide)]) rfl
            rcases h2w.look K2w es s8 hc h12 rfl hff rfl hN with ⟨X3, Y3, d1, d2, d3⟩ | ⟨q, q1, d1, d2, -⟩
            · refine bad (X5 := X3) (Y5 := Y3) ?_ ?_ (h2w.fail d3)
              · rw [hco, ca_s (w := 0) (X' := X3) (by rw [hcm _ _ d1, it_t rfl]; rfl), it_t rfl]; rfl
              · rw [hrf _ _ d2, it_t rfl]; rfl
            · obtain ⟨Xa, Yc, b1, b2, b3, b4, b5, b6, b7⟩ := (h2w.got (nI q)).leaf (l := l) (t := nI q) (b := 0) (by omega) (by omega) l8 (fun z => ⟨q, rfl, by rcases hsl with ⟨e, -⟩ | ⟨-, e⟩; rw [e] at q1; exact q1; omega⟩) (fun z => ⟨q, rfl, by rcases hsl with ⟨-, e⟩ | ⟨e, -⟩; omega; rw [e] at q1; exact q1⟩) (fun z => by omega)
              obtain ⟨X5, Y5, p5, n5, n5', h5, K5, -⟩ := b3.next
              refine fin (X5 := X5) (Y5 := Y5) ?_ ?_ h5 K5
              · rw [hco, ca_s (w := 1) (X' := Xa) (by rw [hcm _ _ d1, it_f (nI_m1 (by omega)), ca_s b1]; rfl), it_f (by decide), ca_s n5]; rfl
              · rw [hrf _ _ d2, it_f (by decide), gI_e, sI_eq, ca_s b2, ca_s n5']; rfl
          have s220 : ∀ j, (sI Y2 218 46 1).1 220 j = Y0.1 220 j := fun j => by rw [sI_row (by decide), h2.S.1]
          by_cases e3 : l = 3
          · subst e3
            refine named 0 0 0 rfl (by decide) (Or.inl ⟨rfl, rfl⟩) ok.c0.1 (by omega) (by omega) (fun i hi => by have := hW.n.1 i hi; rwa [Nat.zero_add] at this ⊢) (fun v Z e => ?_) (fun v Z e => ?_)
            · unfold fX7_readPlainOne
              rw [it_t (show nI (24 + 3) = 27 from rfl), jo1_e]
              dsimp only
              rw [it_t (show nI (24 + 3) = 27 from rfl), ca_s ((k_namQ (s := 0) (a := 0) h1 rfl (by decide) ok.c0.1 (by omega) n2).trans e)]
            · rw [hro, bodyR _ _ _ Y2 n2', it_t rfl, it_t rfl, pI_e, it_t (by decide), it_f (by decide), jo1_e]
              dsimp only
              rw [it_t (show nI 3 = 3 from rfl), rA_l (by decide) (by decide), s220, hW.r.n0 ok, ca_s (show fX12_looksAt 0 (nI (ct (bP X0 4) 0)) (sI Y2 218 46 1) = some (v, Z) from e)]
          · obtain rfl : l = 4 := by omega
            refine named 4 26 4 rfl (by decide) (Or.inr ⟨rfl, rfl⟩) ok.c4.1 (by omega) (by omega) (fun i hi => hW.n.2.2.2.1 i hi) (fun v Z e => ?_) (fun v Z e => ?_)
            · unfold fX7_readPlainOne
              rw [it_f (by decide), it_t (show nI (24 + 4) = 28 from rfl), jo1_e]
              dsimp only
              rw [it_f (by decide), ca_s ((k_namQ (s := 4) (a := 4) h1 rfl (by decide) ok.c4.1 (by omega) n2).trans e)]
            · rw [hro, bodyR _ _ _ Y2 n2', it_t rfl, it_t rfl, pI_e, it_t (by decide), it_f (by decide), jo1_e]
              dsimp only
              rw [it_f (by decide), rA_l (by decide) (by decide), s220, hW.r.n4 ok, ca_s (show fX12_looksAt 26 (nI (ct (bP X0 4) 4)) (sI Y2 218 46 1) = some (v, Z) from e)]
        · -- a comparison
          obtain ⟨X2, Y2, p2, n2, n2', h2, K2, -⟩ := h1.next
          have h2w := h2.setw 1
          have K2w : TK X2 (sI Y2 218 46 1) := K2.y (by rw [sI_ne (by decide)]) (by rw [sI_ne (by decide)]) (by rw [sI_ne (by decide)]) rfl
          have pl : fX7_readPlainOne (nI (24 + l)) (sI X 135 1 (nI (o + 1))) = (ca (fX10_isSign 60) fun v3 => (jo0 ((gI 1 6 fun v4 => (ca (fX10_nextNumber 0 999) fun v5 => (it (v5 = (-1)) (re 0) (ca (fX7_addStep (nI (24 + l)) v5 v4) fun _ => (re 1)))))) (fun J82 => (it (v3 = 0) (ca (fX10_isSign 61) fun v6 => (it (v6 = 0) (ca (fX10_isSign 62) fun v7 => (it (v7 = 0) (ca (fX10_wrong 1) fun v8 => (rz v8)) J82)) J82)) J82)))) X2 := by
            unfold fX7_readPlainOne
            rw [it_f (show ¬ nI (24 + l) = 27 from fun z => absurd ((nI_eq (b := 27) (by omega) (by decide)).mp z) (by omega)), it_f (show ¬ nI (24 + l) = 28 from fun z => absurd ((nI_eq (b := 28) (by omega) (by decide)).mp z) (by omega)), it_f (show ¬ nI (24 + l) < 29 from fun z => absurd ((nI_ltI (b := 29) (by omega) (by decide)).mp z) (by omega)), ca_s n2]
          have ro : fX12_operand Y = (gI 218 11 fun v13 => (it (v13 = 3) (gI 218 14 fun v15 => (it (v15 < 60) (ca (fX12_bad 1) fun v16 => (rz v16)) (gI 218 14 fun v17 => (it (v17 ≤ 62) (gI 218 14 fun v18 => (ca fX12_next fun _ => (gI 218 11 fun v19 => (it (v19 = 2) (gI 218 14 fun v20 => (ca (fX12_code (nI l) v18 v20) fun _ => (ca fX12_next fun _ => (re 1)))) (ca (fX12_bad 1) fun v21 => (rz v21)))))) (ca (fX12_bad 1) fun v22 => (rz v22)))))) (ca (fX12_bad 1) fun v14 => (rz v14)))) (sI Y2 218 46 1) := by
            rw [hro, bodyR _ _ _ Y2 n2', it_t rfl, it_t rfl, pI_e, it_t (show 3 ≤ nI l from nI_le (a := 3) (by omega) (by omega)), it_t (show 5 ≤ nI l from nI_le (a := 5) (by omega) (by omega))]
          -- the three signs
          by_cases sg : X2.1 1 4 = 3 ∧ (X2.1 1 6 = 60 ∨ X2.1 1 6 = 61 ∨ X2.1 1 6 = 62)
          · obtain ⟨g3, g6⟩ := sg
            obtain ⟨c, hc, y11, y14⟩ : ∃ c, (c = 60 ∨ c = 61 ∨ c = 62) ∧ (sI Y2 218 46 1).1 218 11 = 3 ∧ (X2.1 1 6 = nI c ∧ (sI Y2 218 46 1).1 218 14 = nI c) := by
              rcases K2w.2 with ⟨a, -⟩ | ⟨w, -, a, -⟩ | ⟨q, -, a, -⟩ | ⟨q, sq, a, b, c, d, -⟩ | ⟨a, b, c⟩
              · rw [g3] at a; exact absurd a (by decide)
              · rw [g3] at a; exact absurd a (by decide)
              · rw [g3] at a; exact absurd a (by decide)
              · refine ⟨q, ?_, b, c, d⟩
                have q256 : q < 256 := by unfold sgn at sq; omega
                rw [c] at g6
                rcases g6 with z | z | z
                · exact Or.inl ((nI_eq (b := 60) (by omega) (by decide)).mp z)
                · exact Or.inr (Or.inl ((nI_eq (b := 61) (by omega) (by decide)).mp z))
                · exact Or.inr (Or.inr ((nI_eq (b := 62) (by omega) (by decide)).mp z))
              · exfalso
                rcases b with b | ⟨-, q, q1, q2, q3⟩
                · rw [g3] at b; exact absurd b (by decide)
                · rw [q2] at g6
                  refine q3 ?_
                  rcases g6 with z | z | z
                  · exact Or.inr (Or.inr (Or.inr (Or.inl ((nI_eq (b := 60) (by omega) (by decide)).mp z))))
                  · exact Or.inr (Or.inr (Or.inr (Or.inr (Or.inl ((nI_eq (b := 61) (by omega) (by decide)).mp z)))))
                  · exact Or.inr (Or.inr (Or.inr (Or.inr (Or.inr ((nI_eq (b := 62) (by omega) (by decide)).mp z)))))
            obtain ⟨X3, Y3, p3, n3, n3', h3, K3, -⟩ := h2w.next
            have q3 : fX10_nextNumber 0 999 X2 = k_nu 0 999 X3 := (k_nextNumber h2.b.ok).trans (ca_s n3)
            have cmp : fX7_readPlainOne (nI (24 + l)) (sI X 135 1 (nI (o + 1))) = (ca (fX10_nextNumber 0 999) fun v5 => (it (v5 = (-1)) (re 0) (ca (fX7_addStep (nI (24 + l)) v5 (nI c)) fun _ => (re 1)))) X2 := by
              have sgs : ∀ v : Int32, t_isSign (bT X2) v = decide (X2.1 1 6 = v) := fun v => by
                rw [t_isSign_e, g3]
                simp
              rw [pl, ca_s (k_isSign 60), jo0_e, sgs, y14.1]
              rcases hc with rfl | rfl | rfl
              · rw [decide_eq_true (show nI 60 = 60 from rfl), it_f (show ¬ b2 true = 0 by decide), gI_e, y14.1]
              · rw [decide_eq_false (by decide), it_t (show b2 false = 0 from rfl), ca_s (k_isSign 61), sgs, y14.1, decide_eq_true (show nI 61 = 61 from rfl), it_f (show ¬ b2 true = 0 by decide), gI_e, y14.1]
              · rw [decide_eq_false (by decide), it_t (show b2 false = 0 from rfl), ca_s (k_isSign 61), sgs, y14.1, decide_eq_false (by decide), it_t (show b2 false = 0 from rfl), ca_s (k_isSign 62), sgs, y14.1, decide_eq_true (show nI 62 = 62 from rfl), it_f (show ¬ b2 true = 0 by decide), gI_e, y14.1]
            rw [gI_e, y11, it_t rfl, gI_e, y14.2, it_f (show ¬ nI c < 60 from fun z => absurd ((nI_ltI (b := 60) (by omega) (by decide)).mp z) (by omega)), gI_e, y14.2, it_t (show nI c ≤ 62 from nI_le (b := 62) (by omega) (by decide)), gI_e, y14.2, ca_s n3'] at ro
            have other : ¬ X3.1 1 4 = 2 → ¬ Y3.1 218 11 = 2 → SO X0 Y0 n 2 o m k d σ (f + 1) (gX7_readOne C R (nI d) X) (kSL (f + 1) 1 Y) := fun u1 u2 => by
              refine bad (X5 := wX X3 1) (Y5 := wY Y3 1) ?_ ?_ (h3.fail (FL.w K3.1))
              · rw [hco, ca_s (w := 0) (X' := wX X3 1) (by
                  rw [cmp, ca_s (w := -1) (X' := wX X3 1) (q3.trans (by unfold k_nu; rw [if_neg u1])), it_t rfl]; rfl), it_t rfl]; rfl
              · rw [ro, gI_e, it_f u2, ca_s (e_bad 1), rz_0]
            rcases K3.2 with ⟨a, b, -⟩ | ⟨w, -, a, b, -⟩ | ⟨q, q9, a, b, c6, c14, -⟩ | ⟨q, -, a, b, -⟩ | ⟨a, b, -⟩
            · exact other (by rw [a]; decide) (by rw [b]; decide)
            · exact other (by rw [a]; decide) (by rw [b]; decide)
            · obtain ⟨Xa, Yc, b1, b2, b3, b4, b5, b6, b7⟩ := h3.leaf (l := l) (t := nI q) (b := nI c) (by omega) (by omega) l8 (fun z => by omega) (fun z => by omega) (fun _ => by rcases hc with rfl | rfl | rfl; exact Or.inl rfl; exact Or.inr (Or.inl rfl); exact Or.inr (Or.inr rfl))
              obtain ⟨X5, Y5, p5, n5, n5', h5, K5, -⟩ := b3.next
              refine fin (X5 := X5) (Y5 := Y5) ?_ ?_ h5 K5
              · rw [hco, ca_s (w := 1) (X' := Xa) (by
                  rw [cmp, ca_s (w := nI q) (X' := X3) (q3.trans (by
                    unfold k_nu
                    rw [if_pos a, c6, if_neg (by
                      rintro (z | z)
                      · exact absurd ((nI_ltI (b := 0) (by omega) (by decide)).mp z) (by omega)
                      · exact absurd ((nI_ltI (a := 999) (by decide) (by omega)).mp z) (by omega))])), it_f (nI_m1 (by omega)), ca_s b1]; rfl), it_f (by decide), ca_s n5]; rfl
              · rw [ro, gI_e, b, it_t rfl, gI_e, c14, ca_s b2, ca_s n5']; rfl
            · exact other (by rw [a]; decide) (by rw [b]; decide)
            · refine other ?_ (by rw [a]; decide)
              rcases b with b | ⟨b, -⟩
              · rw [b]; decide
              · rw [b]; decide
          · -- another sign
            refine bad (X5 := wX X2 1) (Y5 := wY (sI Y2 218 46 1) 1) ?_ ?_ (h2w.fail (FL.w K2w.1))
            · have sgs : ∀ v : Int32, (v = 60 ∨ v = 61 ∨ v = 62) → t_isSign (bT X2) v = false := fun v hv => by
                rw [t_isSign_e, decide_eq_false]
                rintro ⟨z1, z2⟩
                refine sg ⟨z1, ?_⟩
                rw [z2]; exact hv
              rw [hco, ca_s (w := 0) (X' := wX X2 1) (by
                rw [pl, ca_s (k_isSign 60), jo0_e, sgs 60 (Or.inl rfl), it_t (show b2 false = 0 from rfl), ca_s (k_isSign 61), sgs 61 (Or.inr (Or.inl rfl)), it_t (show b2 false = 0 from rfl), ca_s (k_isSign 62), sgs 62 (Or.inr (Or.inr rfl)), it_t (show b2 false = 0 from rfl), ca_s (e_wrong 1), rz_0]), it_t rfl]; rfl
            · rw [ro, gI_e]
              by_cases y3 : (sI Y2 218 46 1).1 218 11 = 3
              · rw [it_t y3, gI_e]
                rcases K2w.2 with ⟨-, b, -⟩ | ⟨w, -, -, b, -⟩ | ⟨q, -, -, b, -⟩ | ⟨q, sq, a, b, c6, c14, -⟩ | ⟨b, -⟩
                · rw [y3] at b; exact absurd b (by decide)
                · rw [y3] at b; exact absurd b (by decide)
                · rw [y3] at b; exact absurd b (by decide)
                · have q40 : q = 59 ∨ q = 40 ∨ q = 41 := by
                    rcases sq with z | z | z | z | z | z
                    · exact Or.inl z
                    · exact Or.inr (Or.inl z)
                    · exact Or.inr (Or.inr z)
                    · exact absurd ⟨a, Or.inl (by rw [c6, z]; rfl)⟩ sg
                    · exact absurd ⟨a, Or.inr (Or.inl (by rw [c6, z]; rfl))⟩ sg
                    · exact absurd ⟨a, Or.inr (Or.inr (by rw [c6, z]; rfl))⟩ sg
                  rw [c14, it_t (show nI q < 60 from (nI_ltI (b := 60) (by omega) (by decide)).mpr (by omega)), ca_s (e_bad 1), rz_0]
                · rw [y3] at b; exact absurd b (by decide)
              · rw [it_f y3, ca_s (e_bad 1), rz_0]
    · rw [if_neg c3] at hco hro
      exact SO.bad hco ((st_op w46 hro).trans (if_pos rfl)) (h0.fail (FL.w K.1))
end SG
