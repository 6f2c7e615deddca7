/-! names, numbers, words: both look alike -/
section LK
variable {X Y Z : X_} {n m p : Nat}
theorem t_isName_e : t_isName (bT X) = decide (X.1 1 4 = 1 ∧ X.1 1 8 = -1) := rfl
theorem t_isSign_e (c : Int32) : t_isSign (bT X) c = decide (X.1 1 4 = 3 ∧ X.1 1 6 = c) := rfl
theorem TB.key (h : TB X Y n m p) {k : Nat} (hk : k < 32) : Y.2.1 224 k = c8 (kwds.getD (kord.getD k 0) []) := (h.2.2.2.2.2.2.2 k hk).2
/-- of what kind the token is: a word, or none -/
theorem TK.word (h : TK X Y) : (∃ w, isWd w ∧ X.1 1 4 = 1 ∧ Y.1 218 11 = 1 ∧ X.2.1 1 7 = c5 w ∧ Y.2.1 218 17 = c8 w ∧ X.1 1 8 = kx w) ∨ (¬ X.1 1 4 = 1 ∧ ¬ Y.1 218 11 = 1 ∧ X.1 1 8 = -1) := by
  rcases h.2 with ⟨a, b, c⟩ | h | ⟨k, -, a, b, -, -, c⟩ | ⟨k, -, a, b, -, -, c⟩ | ⟨a, b, c⟩
  · exact Or.inr ⟨by rw [a]; decide, by rw [b]; decide, c⟩
  · exact Or.inl h
  · exact Or.inr ⟨by rw [a]; decide, by rw [b]; decide, c⟩
  · exact Or.inr ⟨by rw [a]; decide, by rw [b]; decide, c⟩
  · refine Or.inr ⟨?_, by rw [a]; decide, c⟩
    rcases b with b | ⟨b, -⟩
    · rw [b]; decide
    · rw [b]; decide
theorem e_isWord (h : TK X Y) {k : Nat} {c : Int64} (hk : k < 32) (hc : c = c8 (kwds.getD k [])) : fX12_isWord c Y = some (b2 (decide (X.1 1 8 = nI k)), Y) := by
  unfold fX12_isWord
  rw [gI_e]
  rcases h.word with ⟨w, h1, -, h3, -, h5, h6⟩ | ⟨-, h2, h3⟩
  · rw [it_t h3, gJ_e, h5, h6, it_e]
    by_cases e : w = kwds.getD k []
    · rw [if_pos (lg_eq.mpr (by rw [hc, e])), decide_eq_true ((kx_iff hk).mpr e)]; rfl
    · rw [if_neg (fun z => e ((c8_iff h1 (kw_wd k hk)).mp (hc ▸ lg_eq.mp z))), decide_eq_false (fun z => e ((kx_iff hk).mp z))]; rfl
  · rw [it_f h2, h3, decide_eq_false (fun z => nI_m1 (by omega) z.symm)]; rfl
theorem e_isSignR (h : TK X Y) {k0 : Nat} {c : Int32} (hc : c = nI k0) (hk : sgn k0) : fX12_isSign c Y = some (b2 (t_isSign (bT X) c), Y) := by
  subst hc
  have k256 : k0 < 256 := by unfold sgn at hk; omega
  unfold fX12_isSign
  rw [gI_e, t_isSign_e]
  rcases h.2 with ⟨a, b, c⟩ | ⟨w, -, a, b, -⟩ | ⟨k, -, a, b, -, -, c⟩ | ⟨k, hk', a, b, c, d, -⟩ | ⟨a, b, c⟩
  · rw [b, it_f (by decide), a, decide_eq_false (fun z => absurd z.1 (by decide))]; rfl
  · rw [b, it_f (by decide), a, decide_eq_false (fun z => absurd z.1 (by decide))]; rfl
  · rw [b, it_f (by decide), a, decide_eq_false (fun z => absurd z.1 (by decide))]; rfl
  · rw [b, it_t rfl, gI_e, d, a, c, it_e]
    by_cases e : nI k = nI k0
    · rw [if_pos e, decide_eq_true ⟨rfl, e⟩]; rfl
    · rw [if_neg e, decide_eq_false (fun z => e z.2)]; rfl
  · rw [a, it_f (by decide)]
    rcases b with b | ⟨b, c', c1, c2, c3⟩
    · rw [b, decide_eq_false (fun z => absurd z.1 (by decide))]; rfl
    · rw [decide_eq_false (fun z => by
        rw [c2] at z
        have := (nI_eq (by omega) (by omega)).mp z.2
        subst this
        exact c3 hk)]; rfl
theorem e_isName (hB : TB X Y n m p) (h : TK X Y) : fX12_isName Y = some (b2 (t_isName (bT X)), Y) := by
  unfold fX12_isName
  rw [gI_e, jo1_e, t_isName_e]
  rcases h.word with ⟨w, h1, h2, h3, -, h5, h6⟩ | ⟨h1, h2, h3⟩
  · rw [it_t h3]
    have main := lz2_from (B := (fun L16 x3 x4 => (it (32 ≤ x4) (rz x3) (it (x3 = 0) (L16 0 (x4 + 1)) (gJ 218 17 fun v5 => (rJ 224 32 x4 fun v6 => (it ((lg_cmp v5 v6) = 0) (L16 0 (x4 + 1)) (L16 1 (x4 + 1))))))))) (fun i => b2 (al (fun k => decide (¬ w = kwds.getD (kord.getD k 0) [])) i)) (fun _ => Y) (n := 32) (E := some (b2 (al (fun k => decide (¬ w = kwds.getD (kord.getD k 0) [])) 32), Y)) (fun i L hi => ?_) (fun L => ?_) 32 0 FU (by omega) (by rw [FU_eq]; omega)
    · refine main.trans ?_
      congr 2
      refine congrArg b2 ?_
      rw [h2, h6, Bool.eq_iff_iff, al_iff, decide_eq_true_iff]
      constructor
      · intro e
        refine ⟨rfl, kx_m1.mpr (fun k hk z => ?_)⟩
        obtain ⟨j, j1, j2⟩ := kord_on k hk
        have := of_decide_eq_true (e j j1)
        rw [j2] at this
        exact this z
      · rintro ⟨-, e⟩ i hi
        exact decide_eq_true (kx_m1.mp e _ (kord_lt i hi))
    · rw [it_f (nL_ge hi (by decide))]
      cases q : al (fun k => decide (¬ w = kwds.getD (kord.getD k 0) [])) i
      · rw [it_t (show b2 false = 0 from rfl), al, q, nI_1]; rfl
      · rw [it_f (show ¬ b2 true = 0 by decide), gJ_e, rJ_n hi (by decide), h5, hB.key hi, al, q, Bool.true_and, nI_1, it_e]
        by_cases e : w = kwds.getD (kord.getD i 0) []
        · rw [if_pos (lg_eq.mpr (by rw [e])), decide_eq_false (fun z => z e)]; rfl
        · rw [if_neg (fun z => e ((c8_iff h1 (kw_wd _ (kord_lt i hi))).mp (lg_eq.mp z))), decide_eq_true e]; rfl
    · rw [it_t (nL_le (by decide)), rz_b]
  · rw [it_f h2, decide_eq_false (fun z => h1 z.1)]
    have main := lz2_from (B := (fun L16 x3 x4 => (it (32 ≤ x4) (rz x3) (it (x3 = 0) (L16 0 (x4 + 1)) (gJ 218 17 fun v5 => (rJ 224 32 x4 fun v6 => (it ((lg_cmp v5 v6) = 0) (L16 0 (x4 + 1)) (L16 1 (x4 + 1))))))))) (fun _ => 0) (fun _ => Y) (n := 32) (E := some (0, Y)) (fun i L hi => ?_) (fun L => ?_) 32 0 FU (by omega) (by rw [FU_eq]; omega)
    · exact main
    · rw [it_f (nL_ge hi (by decide)), it_t rfl, nI_1]
    · rw [it_t (nL_le (by decide)), rz_0]
theorem e_seek {f c : Nat} {af am : Int32} (hf : af = nI f) (hfc : f + c ≤ 82) (hm : am = nI c) : fX12_seek af am Y = some (ff (fun i => decide (Y.2.1 223 (f + i) = Y.2.1 218 17)) 0 c, Y) := by
  subst hf; subst hm
  unfold fX12_seek
  refine lz1_ff _ (by omega) (fun i L hi => ?_) (fun L => ?_)
  · rw [it_f (nI_ge hi (by omega)), nI_add, rJ_n (by omega) (by decide), gJ_e, it_e, nI_1]
    by_cases e : Y.2.1 223 (f + i) = Y.2.1 218 17
    · rw [if_pos (lg_eq.mpr e), if_pos (decide_eq_true e)]; rfl
    · rw [if_neg (fun z => e (lg_eq.mp z)), if_neg (fun z => e (of_decide_eq_true z))]
  · rw [it_t (nI_le (Nat.le_refl _) (by omega))]; rfl
/-- names told in both: the same is found -/
theorem seek_find {q s f c : Nat} {w : List Nat} (hc : bP X q 1 s = nI c) (h12 : c ≤ 12) (hN : ∀ i, i < c → wr (bPJ X q 2 (s * 12 + i)) (Y.2.1 223 (f + i))) (hw : isWd w) (h7 : X.2.1 1 7 = c5 w) (h17 : Y.2.1 218 17 = c8 w) : ff (fun i => decide (Y.2.1 223 (f + i) = Y.2.1 218 17)) 0 c = p_find (bP X q) (bPJ X q) s (X.2.1 1 7) := by
  have e : ct (bP X q) s = c := by unfold ct; rw [hc, nI_clamp (by omega)]
  unfold p_find
  rw [e]
  refine ff_congr c 0 (fun j _ hj => ?_)
  rw [decide_eq_decide]
  exact (wr_iff (hN j (by omega)) ⟨w, hw, h7, h17⟩).symm
theorem r_look {q s f c : Nat} {a af am : Int32} (hB : TB X Y n m p) (h : TK X Y) (ha : a = nI s) (hs : s < 8) (hc : bP X q 1 s = nI c) (h12 : c ≤ 12) (hf : af = nI f) (hfc : f + c ≤ 82) (hm : am = nI c) (hN : ∀ i, i < c → wr (bPJ X q 2 (s * 12 + i)) (Y.2.1 223 (f + i))) :
    (∃ X1 Y1, fX10_named q a X = some (-1, X1) ∧ fX12_looksAt af am Y = some (0, Y1) ∧ FL X Y X1 Y1) ∨ ∃ k, k < c ∧ fX10_named q a X = some (nI k, X) ∧ fX12_looksAt af am Y = some (1, sI Y 218 18 (nI k)) ∧ X.1 1 4 = 1 := by
  rw [k_named ha hs hc h12]
  unfold k_nm fX12_looksAt
  rw [ca_s (e_isName hB h)]
  by_cases c1 : t_isName (bT X) = true
  · rw [if_pos c1, c1, it_f (show ¬ b2 true = 0 by decide), ca_s (e_seek hf hfc hm), pI_e, gI_e, sI_eq]
    have k4 := (of_decide_eq_true c1).1
    rcases h.word with ⟨w, h1, -, -, h4, h5, -⟩ | ⟨h1, -⟩
    · rw [seek_find hc h12 hN h1 h4 h5]
      have e : ct (bP X q) s = c := by unfold ct; rw [hc, nI_clamp (by omega)]
      rcases ff_cases (fun i => decide (bPJ X q 2 (s * 12 + i) = X.2.1 1 7)) (ct (bP X q) s) 0 with e1 | ⟨k, -, k1, k2, -⟩
      · have e1 : p_find (bP X q) (bPJ X q) s (X.2.1 1 7) = -1 := e1
        rw [e1, if_pos rfl, it_f (by decide), ca_s (e_bad 3), it_t rfl]
        refine Or.inl ⟨_, _, rfl, rfl, (FL.w (w := 3) (Y := sI Y 218 18 (-1)) ?_).pre (kS.refl _) (gS.i (by omega))⟩
        rw [sI_ne (by decide)]; exact h.1
      · have k2 : p_find (bP X q) (bPJ X q) s (X.2.1 1 7) = nI k := k2
        rw [k2, if_neg (nI_m1 (by omega)), it_t (nI_pos' (by omega))]
        exact Or.inr ⟨k, by omega, rfl, rfl, k4⟩
    · exact absurd k4 h1
  · rw [if_neg c1, Bool.eq_false_iff.mpr c1, it_t (show b2 false = 0 from rfl), ca_s (e_bad 1), rz_0]
    exact Or.inl ⟨_, _, rfl, rfl, FL.w h.1⟩
/-- the plan's names, all of them -/
def NM (P : m_V) (N : m_L) (M : Nat → Int64) (o : Nat) : Prop := ∀ s, s = 0 ∧ o = 0 ∨ s = 1 ∧ o = 12 ∨ s = 3 ∧ o = 18 ∨ s = 4 ∧ o = 26 ∨ s = 6 ∧ o = 36 → ∀ i, i < ct P s → wr (N 2 (s * 12 + i)) (M i)
theorem r_fresh {q t : Nat} {a : Int32} (hB : TB X Y n m p) (h : TK X Y) (hP : okP (bP X q)) (hR : rN (bP X q) (bPJ X q) (fun j => Y.2.1 223 (41 + j))) (hL : ∀ k, k < 8 → Y.1 221 k = bP X q 1 k) (ha : a = nI t) (ht : t < 82) :
    (∃ X1 Y1, k_nw q X = some (0, X1) ∧ fX12_fresh a Y = some (0, Y1) ∧ FL X Y X1 Y1) ∨ (∃ w, isWd w ∧ X.2.1 1 7 = c5 w ∧ Y.2.1 218 17 = c8 w ∧ k_nw q X = some (1, X) ∧ fX12_fresh a Y = (ca fX12_next fun _ => re 1) (sJ Y 223 t (c8 w)) ∧ X.1 1 4 = 1) := by
  unfold k_nw fX12_fresh
  rw [ca_s (e_isName hB h)]
  by_cases c1 : t_isName (bT X) = true
  · rw [if_pos c1, c1, it_f (show ¬ b2 true = 0 by decide)]
    have k4 := (of_decide_eq_true c1).1
    rcases h.word with ⟨w, h1, -, -, h4, h5, -⟩ | ⟨h1, -⟩
    · have ex : ∀ o s (V : Nat), rN1 (bP X q) (bPJ X q) (fun j => Y.2.1 223 (41 + j)) s o → ∀ c, bP X q 1 s = nI c → c ≤ 12 → V = 41 + o → ff (fun i => decide (Y.2.1 223 (V + i) = Y.2.1 218 17)) 0 c = p_find (bP X q) (bPJ X q) s (X.2.1 1 7) := fun o s V hn c hc h12 hV => by
        refine seek_find hc h12 (fun i hi => ?_) h1 h4 h5
        have e : ct (bP X q) s = c := by unfold ct; rw [hc, nI_clamp (by omega)]
        have := hn i (by omega)
        dsimp only at this
        rw [hV, Nat.add_assoc]
        exact this
      have bd : Y.1 221 0 = nI (ct (bP X q) 0) := by rw [hL 0 (by decide), hP.c0.1]
      have bd1 : Y.1 221 1 = nI (ct (bP X q) 1) := by rw [hL 1 (by decide), hP.c1.1]
      have bd3 : Y.1 221 3 = nI (ct (bP X q) 3) := by rw [hL 3 (by decide), hP.c3.1]
      have bd4 : Y.1 221 4 = nI (ct (bP X q) 4) := by rw [hL 4 (by decide), hP.c4.1]
      have bd6 : Y.1 221 6 = nI (ct (bP X q) 6) := by rw [hL 6 (by decide), hP.c6.1]
      have m0 := hP.c0.2
      have m1 := hP.c1.2
      have m3 := hP.c3.2
      have m4 := hP.c4.2
      have m6 := hP.c6.2
      have no : ∀ {s : Nat}, ¬ p_find (bP X q) (bPJ X q) s (X.2.1 1 7) = -1 → 0 ≤ p_find (bP X q) (bPJ X q) s (X.2.1 1 7) := fun {s} z => by
        obtain ⟨k, k1, k2, -⟩ := ff_get z
        have hk : ct (bP X q) s < 2 ^ 31 := by
          unfold ct
          exact Int32.toNatClampNeg_lt _
        rw [show p_find (bP X q) (bPJ X q) s (X.2.1 1 7) = nI k from k2]
        exact nI_pos' (by omega)
      have bad : ∀ (b : Bool), b = true → (if b = true then some ((0 : Int32), wX X 3) else some (1, X)) = some (0, wX X 3) := fun b hb => if_pos hb
      have fl : FL X Y (wX X 3) (wY Y 3) := FL.w h.1
      rw [rA_l (by decide) (by decide), bd, ca_s (e_seek (af := 41) (f := 41) (am := nI (ct (bP X q) 0)) (c := ct (bP X q) 0) rfl (by omega) rfl), ex 0 0 41 hR.1 _ hP.c0.1 (by omega) rfl]
      by_cases s0 : p_find (bP X q) (bPJ X q) 0 (X.2.1 1 7) = -1
      · rw [s0, it_f (by decide), rA_l (by decide) (by decide), bd1, ca_s (e_seek (af := 53) (f := 53) (am := nI (ct (bP X q) 1)) (c := ct (bP X q) 1) rfl (by omega) rfl), ex 12 1 53 hR.2.1 _ hP.c1.1 (by omega) rfl]
        by_cases s1 : p_find (bP X q) (bPJ X q) 1 (X.2.1 1 7) = -1
        · rw [s1, it_f (by decide), rA_l (by decide) (by decide), bd3, ca_s (e_seek (af := 59) (f := 59) (am := nI (ct (bP X q) 3)) (c := ct (bP X q) 3) rfl (by omega) rfl), ex 18 3 59 hR.2.2.1 _ hP.c3.1 (by omega) rfl]
          by_cases s3 : p_find (bP X q) (bPJ X q) 3 (X.2.1 1 7) = -1
          · rw [s3, it_f (by decide), rA_l (by decide) (by decide), bd4, ca_s (e_seek (af := 67) (f := 67) (am := nI (ct (bP X q) 4)) (c := ct (bP X q) 4) rfl (by omega) rfl), ex 26 4 67 hR.2.2.2.1 _ hP.c4.1 (by omega) rfl]
            by_cases s4 : p_find (bP X q) (bPJ X q) 4 (X.2.1 1 7) = -1
            · rw [s4, it_f (by decide), rA_l (by decide) (by decide), bd6, ca_s (e_seek (af := 77) (f := 77) (am := nI (ct (bP X q) 6)) (c := ct (bP X q) 6) rfl (by omega) rfl), ex 36 6 77 hR.2.2.2.2 _ hP.c6.1 (by omega) rfl]
              by_cases s6 : p_find (bP X q) (bPJ X q) 6 (X.2.1 1 7) = -1
              · refine Or.inr ⟨w, h1, h4, h5, ?_, ?_, k4⟩
                · unfold p_knows
                  rw [s0, s1, s3, s4, s6]; rfl
                · rw [s6, it_t (by decide), gJ_e, h5, ha, wJ_n ht (by decide)]
              · rw [it_f (fun z => by
                  have := no s6
                  rw [i32_le] at this
                  rw [i32_lt] at z
                  omega), ca_s (e_bad 3), rz_0, bad _ (by unfold p_knows; simp [s6])]
                exact Or.inl ⟨_, _, rfl, rfl, fl⟩
            · rw [it_t (no s4), ca_s (e_bad 3), rz_0, bad _ (by unfold p_knows; simp [s4])]
              exact Or.inl ⟨_, _, rfl, rfl, fl⟩
          · rw [it_t (no s3), ca_s (e_bad 3), rz_0, bad _ (by unfold p_knows; simp [s3])]
            exact Or.inl ⟨_, _, rfl, rfl, fl⟩
        · rw [it_t (no s1), ca_s (e_bad 3), rz_0, bad _ (by unfold p_knows; simp [s1])]
          exact Or.inl ⟨_, _, rfl, rfl, fl⟩
      · rw [it_t (no s0), ca_s (e_bad 3), rz_0, bad _ (by unfold p_knows; simp [s0])]
        exact Or.inl ⟨_, _, rfl, rfl, fl⟩
    · exact absurd k4 h1
  · rw [if_neg c1, Bool.eq_false_iff.mpr c1, it_t (show b2 false = 0 from rfl), ca_s (e_bad 1), rz_0]
    exact Or.inl ⟨_, _, rfl, rfl, FL.w h.1⟩
theorem r_takes {la lb : Nat} {a b : Int32} (h : TK X Y) (ha : a = nI la) (hb : b = nI lb) (l1 : la ≤ 999) (l2 : lb ≤ 999) :
    (∃ X1 Y1, k_nu a b X = some (-1, X1) ∧ fX12_takes a b Y = some (0, Y1) ∧ FL X Y X1 Y1) ∨ ∃ k, la ≤ k ∧ k ≤ lb ∧ k_nu a b X = some (nI k, X) ∧ fX12_takes a b Y = (ca fX12_next fun _ => re 1) (sI Y 218 18 (nI k)) ∧ X.1 1 4 = 2 := by
  subst ha; subst hb
  unfold k_nu fX12_takes
  rw [gI_e]
  have other : ¬ X.1 1 4 = 2 → ¬ Y.1 218 11 = 2 → (∃ X1 Y1, (if X.1 1 4 = 2 then (if X.1 1 6 < nI la ∨ nI lb < X.1 1 6 then some (-1, wX X 2) else some (X.1 1 6, X)) else some (-1, wX X 1)) = some (-1, X1) ∧ (it (Y.1 218 11 = 2) (gI 218 14 fun v2 => (ca (fX12_isIn v2 (nI la) (nI lb)) fun v3 => (it (v3 = 0) (ca (fX12_bad 2) fun v5 => (rz v5)) (gI 218 14 fun v4 => (pI 218 18 v4 (ca fX12_next fun _ => (re 1))))))) (ca (fX12_bad 1) fun v6 => (rz v6))) Y = some (0, Y1) ∧ FL X Y X1 Y1) := fun e1 e2 => by
    rw [if_neg e1, it_f e2, ca_s (e_bad 1), rz_0]
    exact ⟨_, _, rfl, rfl, FL.w h.1⟩
  rcases h.2 with ⟨a, b, c⟩ | ⟨w, -, a, b, -⟩ | ⟨k, k9, a, b, c, d, -⟩ | ⟨k, hk', a, b, c, d, -⟩ | ⟨a, b, c⟩
  · exact Or.inl (other (by rw [a]; decide) (by rw [b]; decide))
  · exact Or.inl (other (by rw [a]; decide) (by rw [b]; decide))
  · rw [if_pos a, it_t b, gI_e, d, c, ca_s (e_isIn _ _ _), it_e, b2_tri]
    by_cases e : la ≤ k ∧ k ≤ lb
    · rw [if_neg (by
        rintro (z | z)
        · have := (nI_ltI (by omega) (by omega)).mp z; omega
        · have := (nI_ltI (by omega) (by omega)).mp z; omega), if_pos (decide_eq_true ⟨nI_le e.1 (by omega), nI_le e.2 (by omega)⟩), gI_e, d, pI_e]
      exact Or.inr ⟨k, e.1, e.2, rfl, rfl, a⟩
    · rw [if_pos (by
        by_cases z : la ≤ k
        · exact Or.inr (nI_lt (by omega) (by omega))
        · exact Or.inl (nI_lt (by omega) (by omega))), if_neg (fun z => e ?_), ca_s (e_bad 2), rz_0]
      · exact Or.inl ⟨_, _, rfl, rfl, FL.w h.1⟩
      · have := of_decide_eq_true z
        exact ⟨(nI_leI (by omega) (by omega)).mp this.1, (nI_leI (by omega) (by omega)).mp this.2⟩
  · exact Or.inl (other (by rw [a]; decide) (by rw [b]; decide))
  · refine Or.inl (other ?_ (by rw [a]; decide))
    rcases b with b | ⟨b, -⟩
    · rw [b]; decide
    · rw [b]; decide
/-- one of two words, in the component -/
theorem k_tw_cases {j : Nat} {w : Int32} (h : TK X Y) (hw : w = nI j) (hj : j < 31) : (X.1 1 8 = nI j ∧ k_tw w X = some (0, X)) ∨ (X.1 1 8 = nI (j + 1) ∧ k_tw w X = some (1, X)) ∨ (¬ X.1 1 8 = nI j ∧ ¬ X.1 1 8 = nI (j + 1) ∧ k_tw w X = some (-1, wX X 1)) := by
  subst hw
  unfold k_tw
  rw [nI_1]
  have k1 : ∀ i, i < 32 → X.1 1 8 = nI i → X.1 1 4 = 1 := fun i hi e => by
    rcases h.word with ⟨w, -, h2, -⟩ | ⟨-, -, h3⟩
    · exact h2
    · rw [h3] at e; exact absurd e.symm (nI_m1 (by omega))
  by_cases c1 : X.1 1 8 = nI j
  · refine Or.inl ⟨c1, ?_⟩
    rw [if_pos ⟨k1 j (by omega) c1, Or.inl c1⟩, c1, show nI j - nI j = 0 by rw [ix_sub (Nat.le_refl _), Nat.sub_self]; rfl]
  · by_cases c2 : X.1 1 8 = nI (j + 1)
    · refine Or.inr (Or.inl ⟨c2, ?_⟩)
      rw [if_pos ⟨k1 (j + 1) (by omega) c2, Or.inr c2⟩, c2, show nI (j + 1) - nI j = 1 by rw [ix_sub (by omega), Nat.add_sub_cancel_left]; rfl]
    · refine Or.inr (Or.inr ⟨c1, c2, ?_⟩)
      rw [if_neg (fun z => by rcases z.2 with z | z; exact c1 z; exact c2 z)]
/-- the words of kwds as the reference has them -/
theorem kw_8 : c8 (kwds.getD 0 []) = 32481100150959982 ∧ c8 (kwds.getD 1 []) = 123623812527219 ∧ c8 (kwds.getD 2 []) = 500135191403 ∧ c8 (kwds.getD 3 []) = 126896544047468 ∧ c8 (kwds.getD 4 []) = 491496240229 ∧ c8 (kwds.getD 5 []) = 1819239275 ∧ c8 (kwds.getD 6 []) = 500135192942 ∧ c8 (kwds.getD 7 []) = 1752132708 ∧ c8 (kwds.getD 8 []) = 1870030194 := by decide +kernel
end LK
