/-! a sentence: one step of the reference -/
section SF
variable {X Y X1 Y1 X0 Y0 : X_} {n p o m k dp : Nat} {wh : Int32} {π σ : List Int32}
noncomputable def kSF : RM Int32 := (gI 218 42 fun v2 => (wA 220 469 288 v2 (lz1 (fun L146 x3 => (gI 218 42 fun v4 => (it ((3 * v4) ≤ x3) (gI 218 43 fun v5 => (re v5)) (rA 222 135 x3 fun v6 => (wA 220 469 (289 + x3) v6 (L146 (x3 + 1))))))) FU 0)))
noncomputable def kSB (L48 : Int32 → RM Int32) (x1 : Int32) : RM Int32 := (it (x1 = 0) kSF (gI 218 46 fun v7 => (jo0 ((gI 218 46 fun v8 => (it (v8 = 0) (ca fX12_operand fun v9 => (it (v9 = 0) (gI 218 16 fun v10 => (re ((-1) - v10))) (L48 x1))) (ca fX12_behind fun v11 => (it (v11 = 0) (gI 218 16 fun v12 => (re ((-1) - v12))) (L48 x1)))))) (fun J101 => (it (v7 = 0) J101 (gI 218 11 fun v13 => (it (v13 = 0) (ca fX12_nots fun _ => (ca (fX12_joins 22) fun _ => (gI 218 44 fun v14 => (it (v14 ≤ 0) (L48 0) (ca (fX12_bad 1) fun v15 => (gI 218 16 fun v16 => (re ((-1) - v16)))))))) J101)))))))
noncomputable def kSL : Nat → Int32 → RM Int32 := lz1 kSB
theorem st_op {f : Nat} {v : Int32} (h46 : Y.1 218 46 = 0) (h : fX12_operand Y = some (v, Y1)) : kSL (f + 1) 1 Y = if v = 0 then some ((-1) - Y1.1 218 16, Y1) else kSL f 1 Y1 := by
  rw [show kSL (f + 1) 1 = kSB (kSL f) 1 from rfl]; unfold kSB
  rw [it_f (show ¬ (1 : Int32) = 0 by decide), gI_e, jo0_e, h46, it_t rfl, gI_e, h46, it_t rfl, ca_s h, it_e]
  by_cases c : v = 0
  · rw [if_pos c, if_pos c]; rfl
  · rw [if_neg c, if_neg c]
theorem st_bh {f : Nat} {v : Int32} (h46 : Y.1 218 46 = 1) (h11 : ¬ Y.1 218 11 = 0) (h : fX12_behind Y = some (v, Y1)) : kSL (f + 1) 1 Y = if v = 0 then some ((-1) - Y1.1 218 16, Y1) else kSL f 1 Y1 := by
  rw [show kSL (f + 1) 1 = kSB (kSL f) 1 from rfl]; unfold kSB
  rw [it_f (show ¬ (1 : Int32) = 0 by decide), gI_e, jo0_e, h46, it_f (by decide), gI_e, it_f h11, gI_e, h46, it_f (by decide), ca_s h, it_e]
  by_cases c : v = 0
  · rw [if_pos c, if_pos c]; rfl
  · rw [if_neg c, if_neg c]
theorem st_end {f : Nat} {Y2 : X_} (h46 : Y.1 218 46 = 1) (h11 : Y.1 218 11 = 0) (h : fX12_nots Y = some ((), Y1)) (h2 : fX12_joins 22 Y1 = some ((), Y2)) : kSL (f + 1) 1 Y = if Y2.1 218 44 ≤ 0 then kSL f 0 Y2 else some ((-1) - (wY Y2 1).1 218 16, wY Y2 1) := by
  rw [show kSL (f + 1) 1 = kSB (kSL f) 1 from rfl]; unfold kSB
  rw [it_f (show ¬ (1 : Int32) = 0 by decide), gI_e, jo0_e, h46, it_f (by decide), gI_e, it_t h11, ca_s h, ca_s h2, gI_e, it_e]
  by_cases c : Y2.1 218 44 ≤ 0
  · rw [if_pos c, if_pos c]
  · rw [if_neg c, if_neg c, ca_s (e_bad 1), gI_e]; rfl
noncomputable def n_opB (v1 v2 v3 : Int32) : RM Int32 := ((gI 218 43 fun v4 => (it (v4 = 20) (ca (fX12_bad 4) fun v5 => (rz v5)) (gI 218 45 fun v6 => (it (v6 ≤ 8) (gI 218 43 fun v7 => (pI 218 43 (v7 + 1) (ca fX12_next fun _ => (it (v1 = 0) (it (v2 = 0) (pI 218 46 1 (it (3 ≤ v3) (it (5 ≤ v3) (gI 218 11 fun v13 => (it (v13 = 3) (gI 218 14 fun v15 => (it (v15 < 60) (ca (fX12_bad 1) fun v16 => (rz v16)) (gI 218 14 fun v17 => (it (v17 ≤ 62) (gI 218 14 fun v18 => (ca fX12_next fun _ => (gI 218 11 fun v19 => (it (v19 = 2) (gI 218 14 fun v20 => (ca (fX12_code v3 v18 v20) fun _ => (ca fX12_next fun _ => (re 1)))) (ca (fX12_bad 1) fun v21 => (rz v21)))))) (ca (fX12_bad 1) fun v22 => (rz v22)))))) (ca (fX12_bad 1) fun v14 => (rz v14)))) (jo1 (fun w23 => (it (w23 = 0) (re 0) (gI 218 18 fun v24 => (ca (fX12_code v3 0 v24) fun _ => (ca fX12_next fun _ => (re 1)))))) (fun J181 => (it (v3 = 3) (rA 220 469 0 fun v27 => (ca (fX12_looksAt 0 v27) fun v28 => (J181 v28))) (rA 220 469 4 fun v25 => (ca (fX12_looksAt 26 v25) fun v26 => (J181 v26))))))) (ca (fX12_code v3 0 0) fun _ => (re 1)))) (gI 218 44 fun v29 => (jo2 (fun w30 w31 => (wA 234 45 w31 w30 (gI 218 44 fun v32 => (pI 218 44 (v32 + 1) (gI 218 45 fun v33 => (pI 218 45 (v33 + 1) (re 1))))))) (fun J103 => (it (v1 = 0) (J103 23 v29) (J103 20 v29)))))) (gI 218 44 fun v8 => (jo2 (fun w9 w10 => (wA 234 45 w10 w9 (gI 218 44 fun v11 => (pI 218 44 (v11 + 1) (gI 218 45 fun v12 => (pI 218 45 (v12 + 1) (re 1))))))) (fun J103 => (it (v1 = 0) (J103 23 v8) (J103 20 v8))))))))) (ca (fX12_bad 4) fun v34 => (rz v34)))))))
theorem kw_d : c8 (kwds.getD 21 []) = 28530 ∧ c8 (kwds.getD 22 []) = 6385252 ∧ c8 (kwds.getD 23 []) = 7237492 ∧ c8 (kwds.getD 24 []) = 7304564 ∧ c8 (kwds.getD 25 []) = 27991785567970660 ∧ c8 (kwds.getD 26 []) = 33602627781095015 ∧ c8 (kwds.getD 27 []) = 26990 ∧ c8 (kwds.getD 28 []) = 504447463015 ∧ c8 (kwds.getD 29 []) = 499984329587 ∧ c8 (kwds.getD 30 []) = 131260264768868 ∧ c8 (kwds.getD 31 []) = 121450625394034 := by decide +kernel
theorem e_leafS (K : TK X Y) {l : Nat} (hl : l < 8) (h : X.1 1 8 = nI (24 + l)) : fX12_leafOf Y = some (nI l, Y) := by
  obtain ⟨-, -, -, w0, w1, w2, w3, w4, w5, w6, w7⟩ := kw_d
  have step : ∀ (q : Nat) (c : Int64) (A B : RM Int32), q < 32 → c = c8 (kwds.getD q []) → (ca (fX12_isWord c) fun v => (it (v = 0) A B)) Y = if X.1 1 8 = nI q then B Y else A Y := fun q c A B hk hc => by
    rw [ca_s (e_isWord K hk hc), it_bb]
    exact if_iff decide_eq_true_iff
  unfold fX12_leafOf
  rw [step 24 _ _ _ (by decide) w0.symm, step 25 _ _ _ (by decide) w1.symm, step 26 _ _ _ (by decide) w2.symm, step 27 _ _ _ (by decide) w3.symm, step 28 _ _ _ (by decide) w4.symm, step 29 _ _ _ (by decide) w5.symm, step 30 _ _ _ (by decide) w6.symm, step 31 _ _ _ (by decide) w7.symm]
  have ne : ∀ q, q < 32 → ¬ 24 + l = q → ¬ X.1 1 8 = nI q := fun q hq hn z => hn ((nI_eq (by omega) (by omega)).mp (h.symm.trans z))
  obtain rfl | rfl | rfl | rfl | rfl | rfl | rfl | rfl : l = 0 ∨ l = 1 ∨ l = 2 ∨ l = 3 ∨ l = 4 ∨ l = 5 ∨ l = 6 ∨ l = 7 := by omega
  · rw [if_pos h]; rfl
  · rw [if_neg (ne 24 (by decide) (by decide)), if_pos h]; rfl
  · rw [if_neg (ne 24 (by decide) (by decide)), if_neg (ne 25 (by decide) (by decide)), if_pos h]; rfl
  · rw [if_neg (ne 24 (by decide) (by decide)), if_neg (ne 25 (by decide) (by decide)), if_neg (ne 26 (by decide) (by decide)), if_pos h]; rfl
  · rw [if_neg (ne 24 (by decide) (by decide)), if_neg (ne 25 (by decide) (by decide)), if_neg (ne 26 (by decide) (by decide)), if_neg (ne 27 (by decide) (by decide)), if_pos h]; rfl
  · rw [if_neg (ne 24 (by decide) (by decide)), if_neg (ne 25 (by decide) (by decide)), if_neg (ne 26 (by decide) (by decide)), if_neg (ne 27 (by decide) (by decide)), if_neg (ne 28 (by decide) (by decide)), if_pos h]; rfl
  · rw [if_neg (ne 24 (by decide) (by decide)), if_neg (ne 25 (by decide) (by decide)), if_neg (ne 26 (by decide) (by decide)), if_neg (ne 27 (by decide) (by decide)), if_neg (ne 28 (by decide) (by decide)), if_neg (ne 29 (by decide) (by decide)), if_pos h]; rfl
  · rw [if_neg (ne 24 (by decide) (by decide)), if_neg (ne 25 (by decide) (by decide)), if_neg (ne 26 (by decide) (by decide)), if_neg (ne 27 (by decide) (by decide)), if_neg (ne 28 (by decide) (by decide)), if_neg (ne 29 (by decide) (by decide)), if_neg (ne 30 (by decide) (by decide)), if_pos h]; rfl
theorem e_leafSN (K : TK X Y) (h : ∀ l, l < 8 → ¬ X.1 1 8 = nI (24 + l)) : fX12_leafOf Y = some (-1, Y) := by
  obtain ⟨-, -, -, w0, w1, w2, w3, w4, w5, w6, w7⟩ := kw_d
  have step : ∀ (q : Nat) (c : Int64) (A B : RM Int32), q < 32 → c = c8 (kwds.getD q []) → (ca (fX12_isWord c) fun v => (it (v = 0) A B)) Y = if X.1 1 8 = nI q then B Y else A Y := fun q c A B hk hc => by
    rw [ca_s (e_isWord K hk hc), it_bb]
    exact if_iff decide_eq_true_iff
  unfold fX12_leafOf
  rw [step 24 _ _ _ (by decide) w0.symm, step 25 _ _ _ (by decide) w1.symm, step 26 _ _ _ (by decide) w2.symm, step 27 _ _ _ (by decide) w3.symm, step 28 _ _ _ (by decide) w4.symm, step 29 _ _ _ (by decide) w5.symm, step 30 _ _ _ (by decide) w6.symm, step 31 _ _ _ (by decide) w7.symm, if_neg (h 0 (by decide)), if_neg (h 1 (by decide)), if_neg (h 2 (by decide)), if_neg (h 3 (by decide)), if_neg (h 4 (by decide)), if_neg (h 5 (by decide)), if_neg (h 6 (by decide)), if_neg (h 7 (by decide))]; rfl
/-- what an operand begins with: not, a bracket, or a leaf -/
theorem e_operand (K : TK X Y) : fX12_operand Y = if t_isSign (bT X) 40 = true then n_opB 0 1 (-1) Y else if X.1 1 8 = nI 23 then n_opB 1 0 (-1) Y else @ite _ (∃ l, l < 8 ∧ X.1 1 8 = nI (24 + l)) (Classical.propDecidable _) (n_opB 0 0 (X.1 1 8 - 24) Y) (some (0, wY Y 1)) := by
  have st : fX12_operand = (ca (fX12_isWord 7237492) fun v1 => (ca (fX12_isSign 40) fun v2 => (ca fX12_leafOf fun v3 => (jo0 (n_opB v1 v2 v3) (fun J38 => (it (v1 = 0) (it (v2 = 0) (it (0 ≤ v3) J38 (ca (fX12_bad 1) fun v35 => (rz v35))) J38) J38)))))) := rfl
  rw [st, ca_s (e_isWord K (k := 23) (by decide) kw_d.2.2.1.symm), ca_s (e_isSignR K (k0 := 40) (c := 40) rfl (Or.inr (Or.inl rfl)))]
  have sg : t_isSign (bT X) 40 = true → X.1 1 8 = -1 := fun z => by
    obtain ⟨z1, -⟩ := of_decide_eq_true z
    rcases K.word with ⟨w, -, h2, -⟩ | ⟨-, -, h3⟩
    · have : X.1 1 4 = 3 := z1
      rw [h2] at this; exact absurd this (by decide)
    · exact h3
  by_cases c1 : t_isSign (bT X) 40 = true
  · have km := sg c1
    rw [if_pos c1, c1, km, decide_eq_false (fun z => nI_m1 (by decide) z.symm), ca_s (e_leafSN K (fun l hl z => nI_m1 (by omega) (km.symm.trans z).symm)), jo0_e, it_t (show b2 false = 0 from rfl), it_f (show ¬ b2 true = 0 by decide)]; rfl
  · rw [if_neg c1, Bool.eq_false_iff.mpr c1]
    by_cases c2 : X.1 1 8 = nI 23
    · rw [if_pos c2, decide_eq_true c2, ca_s (e_leafSN K (fun l hl z => absurd ((nI_eq (by omega) (by omega)).mp (c2.symm.trans z)) (by omega))), jo0_e, it_f (show ¬ b2 true = 0 by decide)]; rfl
    · rw [if_neg c2, decide_eq_false c2]
      by_cases c3 : ∃ l, l < 8 ∧ X.1 1 8 = nI (24 + l)
      · rw [if_pos c3]
        obtain ⟨l, l1, l2⟩ := c3
        rw [ca_s (e_leafS K l1 l2), jo0_e, it_t (show b2 false = 0 from rfl), it_t (show b2 false = 0 from rfl), it_t (nI_pos' (by omega)), l2, show nI (24 + l) - 24 = nI l by rw [show nI (24 + l) - 24 = nI (24 + l - 24) from ix_sub (c := 24) (by omega), Nat.add_sub_cancel_left]]; rfl
      · rw [if_neg c3, ca_s (e_leafSN K (fun l hl z => c3 ⟨l, hl, z⟩)), jo0_e, it_t (show b2 false = 0 from rfl), it_t (show b2 false = 0 from rfl), it_f (by decide), ca_s (e_bad 1), rz_0]
noncomputable def n_oneB (C R : Int32 → RM Int32) (a1 v1 v2 : Int32) : RM Int32 := (gI 135 1 fun v3 => (it (20 ≤ v3) (ca (fX10_wrong 4) fun v4 => (rz v4)) (it (a1 ≤ 8) (gI 135 1 fun v5 => (pI 135 1 (v5 + 1) (it (v1 = 0) (it (v2 = 23) (ca fX10_next fun _ => (ca (R (a1 + 1)) fun v7 => (it (v7 = 0) (re 0) (ca (fX7_addStep 23 0 0) fun _ => (re 1))))) (ca (fX7_readPlainOne v2) fun v6 => (it (v6 = 0) (re 0) (ca fX10_next fun _ => (re 1))))) (ca fX10_next fun _ => (ca (C (a1 + 1)) fun v8 => (it (v8 = 0) (re 0) (ca (fX10_mustBe 41) fun v9 => (it (v9 = 0) (re 0) (ca fX10_next fun _ => (re 1)))))))))) (ca (fX10_wrong 4) fun v10 => (rz v10)))))
theorem k_one (K : TK X Y) (C R : Int32 → RM Int32) (a1 : Int32) : gX7_readOne C R a1 X = if t_isSign (bT X) 40 = true then n_oneB C R a1 1 (X.1 1 8) X else if X.1 1 8 = nI 23 then n_oneB C R a1 0 23 X else @ite _ (∃ l, l < 8 ∧ X.1 1 8 = nI (24 + l)) (Classical.propDecidable _) (n_oneB C R a1 0 (X.1 1 8) X) (some (0, wX X 1)) := by
  have st : gX7_readOne C R a1 = (ca (fX10_isSign 40) fun v1 => (gI 1 8 fun v2 => (jo0 (n_oneB C R a1 v1 v2) (fun J39 => (it (v1 = 0) (it (v2 < 23) (ca (fX10_wrong 1) fun v11 => (rz v11)) (it (v2 ≤ 31) J39 (ca (fX10_wrong 1) fun v12 => (rz v12)))) J39))))) := rfl
  rw [st, ca_s (k_isSign 40), gI_e, jo0_e]
  by_cases c1 : t_isSign (bT X) 40 = true
  · rw [if_pos c1, c1, it_f (show ¬ b2 true = 0 by decide)]; rfl
  · rw [if_neg c1, Bool.eq_false_iff.mpr c1, it_t (show b2 false = 0 from rfl)]
    have kc : X.1 1 8 = -1 ∨ ∃ q, q < 32 ∧ X.1 1 8 = nI q := by
      rcases K.word with ⟨w, -, -, -, -, -, h⟩ | ⟨-, -, h⟩
      · rw [h]; exact kx_01 w
      · exact Or.inl h
    by_cases c2 : X.1 1 8 = nI 23
    · rw [if_pos c2, c2, it_f (by decide), it_t (by decide)]; rfl
    · rw [if_neg c2]
      by_cases c3 : ∃ l, l < 8 ∧ X.1 1 8 = nI (24 + l)
      · rw [if_pos c3]
        obtain ⟨l, l1, l2⟩ := c3
        rw [l2, it_f (show ¬ nI (24 + l) < 23 from fun z => absurd ((nI_ltI (b := 23) (by omega) (by decide)).mp z) (by omega)), it_t (show nI (24 + l) ≤ 31 from nI_le (b := 31) (by omega) (by decide))]; rfl
      · rw [if_neg c3]
        rcases kc with e | ⟨q, q1, q2⟩
        · rw [e, it_t (by decide), ca_s (e_wrong 1), rz_0]
        · have : q < 23 := by
            rcases Nat.lt_or_ge q 23 with c | c
            · exact c
            · exfalso
              by_cases e : q = 23
              · subst e; exact c2 q2
              · exact c3 ⟨q - 24, by omega, by rw [q2]; congr 1; omega⟩
          rw [q2, it_t (show nI q < 23 from (nI_ltI (b := 23) (by omega) (by decide)).mpr this), ca_s (e_wrong 1), rz_0]
end SF
