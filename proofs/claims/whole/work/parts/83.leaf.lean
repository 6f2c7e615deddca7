/-! said: both -/
section SD
variable {P V : m_V} {X : X_}
theorem nI_dec {d : Nat} (h : 1 ≤ d) : nI d + (-1) = nI (d - 1) := by
  rw [← Int32.sub_eq_add_neg]
  exact ix_sub (c := 1) h
def cmpQ (x sg th : Int32) : Bool := if sg = 60 then decide (¬ th ≤ x) else if sg = 62 then decide (¬ x ≤ th) else decide (x = th)
/-- whether a plain one holds of a train -/
def lfL (P V : m_V) (l : Nat) (th sg : Int32) (t : Nat) : Bool := match l with
  | 0 => decide (V 4 t = -1)
  | 1 => bt (V 0 6) t
  | 2 => bt (V 0 7) t
  | 3 => decide (V 4 t = th)
  | 4 => bt (s_routesUsedBy P V (nI t)) th.toNatClampNeg
  | 5 => cmpQ (V 5 t) sg th
  | 6 => cmpQ (V 6 t) sg th
  | _ => cmpQ (nI t) sg th
theorem it_b {c : Prop} [Decidable c] {Y : X_} : it c (re 1) (re 0) Y = some (b2 (decide c), Y) := by
  by_cases h : c
  · rw [it_t h, decide_eq_true h]; rfl
  · rw [it_f h, decide_eq_false h]; rfl
theorem it_n {c : Prop} [Decidable c] {Y : X_} : it c (re 0) (re 1) Y = some (b2 (decide (¬ c)), Y) := by
  by_cases h : c
  · rw [it_t h, decide_eq_false (fun z => z h)]; rfl
  · rw [it_f h, decide_eq_true h]; rfl
theorem k_compares {i : Nat} (hi : i < 40) (x : Int32) : fX7_compares x (nI i) X = some (b2 (cmpQ x (X.1 133 i) (X.1 132 i)), X) := by
  unfold fX7_compares cmpQ
  rw [rA_n hi (by decide)]
  by_cases c : X.1 133 i = 60
  · rw [it_t c, rA_n hi (by decide), if_pos c]
    exact it_n
  · rw [it_f c, rA_n hi (by decide), if_neg c]
    by_cases e : X.1 133 i = 62
    · rw [it_t e, rA_n hi (by decide), if_pos e]
      exact it_n
    · rw [it_f e, rA_n hi (by decide), if_neg e]
      exact it_b
/-- what a plain one asks of its words -/
def okL (P : m_V) (l : Nat) (th sg : Int32) : Prop := l < 8 ∧ (l = 3 → ∃ n, th = nI n ∧ n < ct P 0) ∧ (l = 4 → ∃ n, th = nI n ∧ n < ct P 4) ∧ (5 ≤ l → sg = 60 ∨ sg = 61 ∨ sg = 62)
theorem k_isTrue (hP : bP X 4 = P) (hV : bV X 47 = V) (w : okP P) {i t l : Nat} (hi : i < 40) (ht : t < 5) (h3 : 3 ≤ l) (ok : okL P l (X.1 132 i) (X.1 133 i)) (hw : X.1 131 i = nI (24 + l)) : fX7_isTrueOf (nI i) (nI t) X = some (b2 (lfL P V l (X.1 132 i) (X.1 133 i) t), X) := by
  have c4 := w.c4.2
  obtain ⟨h8, o3, o4, o5⟩ := ok
  unfold fX7_isTrueOf
  rw [rA_n hi (by decide), show X.1 (130 + 1) i = nI (24 + l) from hw]
  rcases (show l = 3 ∨ l = 4 ∨ l = 5 ∨ l = 6 ∨ l = 7 by omega) with rfl | rfl | rfl | rfl | rfl
  · rw [it_t (by decide), k_V ht (by decide) (by decide), rA_n hi (by decide), hV]
    exact it_b
  · obtain ⟨n, e, hn⟩ := o4 rfl
    have hu : fX8_routesUsedBy 47 (nI t) X = some (s_routesUsedBy P V (nI t), X) := by
      rw [← hP, ← hV]
      exact gd_t (by rw [hP]; exact w)
    rw [it_f (by decide), it_t (by decide), ca_s hu, rA_n hi (by decide), show X.1 (130 + 2) i = nI n from e, b_tst (by omega), it_b]
    show _ = some (b2 (bt _ (nI n).toNatClampNeg), X)
    rw [nI_clamp (by omega)]
    cases bt (s_routesUsedBy P V (nI t)) n <;> rfl
  · rw [it_f (by decide), it_f (by decide), it_t (by decide), k_V ht (by decide) (by decide), ca_s (k_compares hi _), hV]
    exact rz_b _
  · rw [it_f (by decide), it_f (by decide), it_f (by decide), it_t (by decide), k_V ht (by decide) (by decide), ca_s (k_compares hi _), hV]
    exact rz_b _
  · rw [it_f (by decide), it_f (by decide), it_f (by decide), it_f (by decide), ca_s (k_compares hi _)]
    exact rz_b _
theorem k_leaf (hP : bP X 4 = P) (hV : bV X 47 = V) (w : okP P) (hN : wfN P V) {i l : Nat} (hi : i < 40) (ok : okL P l (X.1 132 i) (X.1 133 i)) (hw : X.1 131 i = nI (24 + l)) : ∃ M, fX7_trainsOfStep (nI i) X = some (M, X) ∧ ∀ t, t < 32 → bt M t = (decide (t < ct P 6) && lfL P V l (X.1 132 i) (X.1 133 i) t) := by
  have c6 := w.c6.2
  have h8 := ok.1
  unfold fX7_trainsOfStep
  rw [rA_n hi (by decide), show X.1 (130 + 1) i = nI (24 + l) from hw]
  have low : ∀ x : Int32, lowB x (ct P 6) → ∀ t, t < 32 → bt x t = (decide (t < ct P 6) && bt x t) := fun x hx t ht => by
    by_cases c : t < ct P 6
    · rw [decide_eq_true c]; rfl
    · rw [decide_eq_false c, hx t (by omega) ht]; rfl
  by_cases c3 : 3 ≤ l
  · refine ⟨bo (lfL P V l (X.1 132 i) (X.1 133 i)) (ct P 6), ?_, fun t ht => b_bo _ _ (by omega) t ht⟩
    have n0 : ¬ nI (24 + l) = 24 := fun e => by have := (nI_eq (b := 24) (by omega) (by decide)).mp e; omega
    have n1 : ¬ nI (24 + l) = 25 := fun e => by have := (nI_eq (b := 25) (by omega) (by decide)).mp e; omega
    have n2 : ¬ nI (24 + l) = 26 := fun e => by have := (nI_eq (b := 26) (by omega) (by decide)).mp e; omega
    rw [it_f n0, it_f n1, it_f n2]
    have e6 : X.1 (4 + 1) 6 = nI (ct P 6) := by rw [← w.c6.1, ← hP]; rfl
    refine lz2_bo (lfL P V l (X.1 132 i) (X.1 133 i)) (n := ct P 6) (E := fun a => some (a, X)) (by omega) (fun t a L ht => ?_) (fun a L => ?_)
    · rw [rA_l (by decide) (by decide), e6, it_f (nI_ge ht (by omega)), ca_s (k_isTrue hP hV w hi (by omega) c3 ok hw), nI_1]
      cases lfL P V l (X.1 132 i) (X.1 133 i) t
      · rw [it_t (show b2 false = 0 from rfl)]; rfl
      · rw [it_f (show ¬ b2 true = 0 by decide)]; rfl
    · rw [rA_l (by decide) (by decide), e6, it_t (nI_le (Nat.le_refl _) (by omega))]; rfl
  · rcases (show l = 0 ∨ l = 1 ∨ l = 2 by omega) with rfl | rfl | rfl
    · refine ⟨s_trainsOut P V, ?_, fun t ht => b_bo _ _ (by omega) t ht⟩
      rw [it_t (by decide), ca_re, ← hP, ← hV]
      exact gd_t (by rw [hP]; exact w)
    · refine ⟨V 0 6, ?_, fun t ht => low _ hN.1.2.2.2.2.1 t ht⟩
      rw [it_f (by decide), it_t (by decide), ← hV]; rfl
    · refine ⟨V 0 7, ?_, fun t ht => low _ hN.1.2.2.2.2.2 t ht⟩
      rw [it_f (by decide), it_f (by decide), it_t (by decide), ← hV]; rfl
theorem e_leaf (hL : RLa P (X.1 220)) (w : okP P) (hS : RS P V (X.1 220)) (h7 : X.1 220 282 = V 0 7) {t l : Nat} {th sg : Int32} (ht : t < ct P 6) (ok : okL P l th sg) : fX12_isLeaf (nI t) (nI l) sg th X = some (b2 (lfL P V l th sg t), X) := by
  have c6 := w.c6.2
  have c4 := w.c4.2
  obtain ⟨h8, o3, o4, o5⟩ := ok
  have cmp : ∀ x : Int32, (5 ≤ l) → (it (sg = 60) (it (th ≤ x) (re 0) (re 1)) (it (sg = 61) (it (x = th) (re 1) (re 0)) (it (x ≤ th) (re 0) (re 1)))) X = some (b2 (cmpQ x sg th), X) := fun x h5 => by
    unfold cmpQ
    rcases o5 h5 with rfl | rfl | rfl
    · rw [it_t rfl, if_pos rfl]; exact it_n
    · rw [it_f (by decide), it_t rfl, if_neg (by decide), if_neg (by decide)]; exact it_b
    · rw [it_f (by decide), it_f (by decide), if_neg (by decide), if_pos rfl]; exact it_n
  unfold fX12_isLeaf
  rcases (show l = 0 ∨ l = 1 ∨ l = 2 ∨ l = 3 ∨ l = 4 ∨ l = 5 ∨ l = 6 ∨ l = 7 by omega) with rfl | rfl | rfl | rfl | rfl | rfl | rfl | rfl
  · rw [it_t (by decide), ix_la, rA_n (by omega) (by decide), hS.at ht, it_b]
    show _ = some (b2 (decide (V 4 t = -1)), X)
    have : (V 4 t + 1 = 0) ↔ (V 4 t = -1) := by
      rw [show (0 : Int32) = -1 + 1 by decide, cp_inj]
    rw [decide_eq_decide.mpr this]
  · rw [it_f (by decide), it_t (by decide), rA_l (by decide) (by decide), hS.cr, ca_s (e_bitOf _ (by omega))]
    exact rz_b _
  · rw [it_f (by decide), it_f (by decide), it_t (by decide), rA_l (by decide) (by decide), h7, ca_s (e_bitOf _ (by omega))]
    exact rz_b _
  · rw [it_f (by decide), it_f (by decide), it_f (by decide), it_t (by decide), ix_la, rA_n (by omega) (by decide), hS.at ht, it_b]
    show _ = some (b2 (decide (V 4 t = th)), X)
    rw [decide_eq_decide.mpr (show (V 4 t + 1 = th + 1) ↔ (V 4 t = th) by rw [cp_inj])]
  · obtain ⟨n, rfl, hn⟩ := o4 rfl
    rw [it_f (by decide), it_f (by decide), it_f (by decide), it_f (by decide), it_t (by decide), ix_la, rA_n (by omega) (by decide), hS.us hn, it_b]
    show _ = some (b2 (bt (s_routesUsedBy P V (nI t)) (nI n).toNatClampNeg), X)
    rw [nI_clamp (by omega), s_routesUsedBy, b_bo _ _ (by omega) n (by omega), decide_eq_true hn, Bool.true_and]
    by_cases c : V 1 n = 2
    · rw [if_pos c, decide_eq_decide.mpr (show (V 3 n + 1 = nI t + 1) ↔ (V 1 n = 2 ∧ V 3 n = nI t) by rw [cp_inj]; exact ⟨fun e => ⟨c, e⟩, fun e => e.2⟩)]
    · rw [if_neg c, decide_eq_false (show ¬ (0 = nI t + 1) from fun e => by rw [nI_1] at e; have := (nI_eq (a := 0) (by decide) (by omega)).mp e; omega), decide_eq_false (fun e => c e.1)]
  · rw [it_f (by decide), it_f (by decide), it_f (by decide), it_f (by decide), it_f (by decide), jo1_e, it_t (by decide), ix_la, rA_n (by omega) (by decide), hS.st ht]
    exact cmp _ (by decide)
  · rw [it_f (by decide), it_f (by decide), it_f (by decide), it_f (by decide), it_f (by decide), jo1_e, it_f (by decide), it_t (by decide), ix_la, rA_n (by omega) (by decide), hS.wd ht]
    exact cmp _ (by decide)
  · rw [it_f (by decide), it_f (by decide), it_f (by decide), it_f (by decide), it_f (by decide), jo1_e, it_f (by decide), it_f (by decide)]
    exact cmp _ (by decide)
end SD
