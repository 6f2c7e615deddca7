/-! what is asked of a token, in both -/
section PM
variable {X Y Z : X_} {n m p : Nat}
def wX (X : X_) (w : Int32) : X_ := sI (sI X 1 9 w) 1 10 (X.1 1 5)
def wY (Y : X_) (w : Int32) : X_ := sI (sI Y 218 15 w) 218 16 (Y.1 218 12)
/-- what reading changes: the component's, the reference's -/
def kS (X X' : X_) : Prop := (∀ a, ¬ a = 1 → X'.1 a = X.1 a) ∧ (∀ k, k < 3 → X'.1 1 k = X.1 1 k) ∧ (∀ a k, ¬ (a = 1 ∧ k = 7) → X'.2.1 a k = X.2.1 a k) ∧ X'.2.2 = X.2.2
def gS (Y Y' : X_) : Prop := (∀ a, ¬ a = 218 → Y'.1 a = Y.1 a) ∧ (∀ k, ¬ k = 4 → (k < 11 ∨ k = 17 ∨ 18 < k) → Y'.1 218 k = Y.1 218 k) ∧ (∀ a k, ¬ (a = 218 ∧ k = 17) → Y'.2.1 a k = Y.2.1 a k) ∧ Y'.2.2 = Y.2.2
theorem kS.refl (X : X_) : kS X X := ⟨fun _ _ => rfl, fun _ _ => rfl, fun _ _ _ => rfl, rfl⟩
theorem gS.refl (X : X_) : gS X X := ⟨fun _ _ => rfl, fun _ _ _ => rfl, fun _ _ _ => rfl, rfl⟩
theorem kS.tr {X' : X_} (h : kS X X') (h' : kS X' Z) : kS X Z := ⟨fun a ha => (h'.1 a ha).trans (h.1 a ha), fun k a => (h'.2.1 k a).trans (h.2.1 k a), fun a k e => (h'.2.2.1 a k e).trans (h.2.2.1 a k e), h'.2.2.2.trans h.2.2.2⟩
theorem gS.tr {Y' : X_} (h : gS Y Y') (h' : gS Y' Z) : gS Y Z := ⟨fun a ha => (h'.1 a ha).trans (h.1 a ha), fun k a b => (h'.2.1 k a b).trans (h.2.1 k a b), fun a k e => (h'.2.2.1 a k e).trans (h.2.2.1 a k e), h'.2.2.2.trans h.2.2.2⟩
theorem cSx.k (h : cSx X Z) : kS X Z := ⟨h.1, fun k hk => h.2.1 k (by omega) (by omega) (by omega) (by omega) (by omega), h.2.2.1, h.2.2.2⟩
theorem tS.g (h : tS Y Z) : gS Y Z := ⟨h.1, fun k a b => h.2.1 k a (by omega) (by omega) (by omega) (by omega), h.2.2.1, h.2.2.2⟩
theorem kS.w (X : X_) (w : Int32) : kS X (wX X w) := ⟨fun a ha => (sI_row ha).trans (sI_row ha), fun k hk => (sI_ne (by omega)).trans (sI_ne (by omega)), fun _ _ _ => rfl, rfl⟩
theorem gS.i {k : Nat} {v : Int32} (hk : k = 4 ∨ (11 ≤ k ∧ k < 17) ∨ k = 18) : gS Y (sI Y 218 k v) := ⟨fun a ha => sI_row ha, fun j a b => sI_ne (by omega), fun _ _ _ => rfl, rfl⟩
theorem gS.w (Y : X_) (w : Int32) : gS Y (wY Y w) := (gS.i (by omega)).tr (gS.i (by omega))
/-- both have found a fault, the same -/
def FL (X Y X1 Y1 : X_) : Prop := kS X X1 ∧ gS Y Y1 ∧ X1.1 1 9 = Y1.1 218 15 ∧ X1.1 1 10 = Y1.1 218 16
theorem FL.w {w : Int32} (h : X.1 1 5 = Y.1 218 12) : FL X Y (wX X w) (wY Y w) := ⟨kS.w X w, gS.w Y w, by
  show (sI (sI X 1 9 w) 1 10 (X.1 1 5)).1 1 9 = (sI (sI Y 218 15 w) 218 16 (Y.1 218 12)).1 218 15
  rw [sI_ne (by decide), sI_eq, sI_ne (by decide), sI_eq], by
  show (sI (sI X 1 9 w) 1 10 (X.1 1 5)).1 1 10 = (sI (sI Y 218 15 w) 218 16 (Y.1 218 12)).1 218 16
  rw [sI_eq, sI_eq]; exact h⟩
theorem FL.pre {X0 Y0 X1 Y1 : X_} (h : FL X Y X1 Y1) (a : kS X0 X) (b : gS Y0 Y) : FL X0 Y0 X1 Y1 := ⟨a.tr h.1, b.tr h.2.1, h.2.2⟩
theorem e_bad (w : Int32) : fX12_bad w Y = some (0, wY Y w) := by
  unfold fX12_bad
  rw [pI_e, gI_e, sI_ne (by decide), pI_e]; rfl
theorem bkS_is {S : m_TX} (h1 : S.1 0 = Z.1 1) (h2 : S.1 1 = Z.1 2) (h3 : S.1 2 = Z.1 3) (l1 : S.2 0 = Z.2.1 1) (l2 : S.2 1 = Z.2.1 2) (l3 : S.2 2 = Z.2.1 3) (hr : ∀ a, ¬ (1 ≤ a ∧ a < 4) → X.1 a = Z.1 a) (hl : ∀ a, ¬ (1 ≤ a ∧ a < 4) → X.2.1 a = Z.2.1 a) (hg : X.2.2 = Z.2.2) : bkS X S = Z := by
  have c4 : ∀ a, 1 ≤ a → a < 4 → a = 1 ∨ a = 2 ∨ a = 3 := fun a _ _ => by omega
  refine Prod.ext ?_ (Prod.ext ?_ hg)
  · funext a
    by_cases c : 1 ≤ a ∧ a < 4
    · rcases c4 a c.1 c.2 with rfl | rfl | rfl
      · rw [← h1]; exact bk_in0 (by decide)
      · rw [← h2]; exact bk_in (b := 1) (j := 1) (by decide)
      · rw [← h3]; exact bk_in (b := 1) (j := 2) (by decide)
    · rw [← hr a c]; exact bkS_row c
  · funext a
    by_cases c : 1 ≤ a ∧ a < 4
    · rcases c4 a c.1 c.2 with rfl | rfl | rfl
      · rw [← l1]; exact bk_inJ (b := 1) (j := 0) (by decide)
      · rw [← l2]; exact bk_inJ (b := 1) (j := 1) (by decide)
      · rw [← l3]; exact bk_inJ (b := 1) (j := 2) (by decide)
    · rw [← hl a c]; exact bkS_rowJ c
theorem bkS_self : bkS X (bS X) = X := bkS_is rfl rfl rfl rfl rfl rfl (fun _ _ => rfl) (fun _ _ => rfl) rfl
theorem bkS_w (w : Int32) : bkS X (t_wrongS (bS X) w) = wX X w := by
  refine bkS_is ?_ ?_ ?_ rfl rfl rfl (fun a ha => ?_) (fun _ _ => rfl) rfl
  · funext k
    show t_wrong (bT X) w 0 k = _
    unfold t_wrong wX u2
    rw [sI_i, sI_i]
    by_cases c1 : k = 10
    · subst c1; rw [if_pos ⟨rfl, rfl⟩, if_pos ⟨rfl, rfl⟩]; rfl
    · rw [if_neg (show ¬ (0 = 0 ∧ k = 10) from fun z => c1 z.2), if_neg (show ¬ (1 = 1 ∧ k = 10) from fun z => c1 z.2)]
      by_cases c2 : k = 9
      · subst c2; rw [if_pos ⟨rfl, rfl⟩, if_pos ⟨rfl, rfl⟩]
      · rw [if_neg (show ¬ (0 = 0 ∧ k = 9) from fun z => c2 z.2), if_neg (show ¬ (1 = 1 ∧ k = 9) from fun z => c2 z.2)]; rfl
  · funext k
    show t_wrong (bT X) w 1 k = _
    unfold t_wrong wX u2
    rw [if_neg (by omega), if_neg (by omega), sI_ne (by omega), sI_ne (by omega)]; rfl
  · funext k
    show t_wrong (bT X) w 2 k = _
    unfold t_wrong wX u2
    rw [if_neg (by omega), if_neg (by omega), sI_ne (by omega), sI_ne (by omega)]; rfl
  · unfold wX
    rw [sI_row (by omega), sI_row (by omega)]
theorem e_wrong (w : Int32) : fX10_wrong w X = some (0, wX X w) := by
  show some ((0 : Int32), bkS X (t_wrongS (bS X) w)) = _
  rw [bkS_w]
theorem bkS_bkS {S S' : m_TX} : bkS (bkS X S) S' = bkS X S' := by
  refine bkS_is ?_ ?_ ?_ ?_ ?_ ?_ (fun a ha => ?_) (fun a ha => ?_) rfl
  · exact (bk_in0 (by decide)).symm
  · exact (bk_in (b := 1) (j := 1) (by decide)).symm
  · exact (bk_in (b := 1) (j := 2) (by decide)).symm
  · exact (bk_inJ (b := 1) (j := 0) (by decide)).symm
  · exact (bk_inJ (b := 1) (j := 1) (by decide)).symm
  · exact (bk_inJ (b := 1) (j := 2) (by decide)).symm
  · rw [bkS_row ha, bkS_row ha]
  · rw [bkS_rowJ ha, bkS_rowJ ha]
theorem bS_bkS {S : m_TX} (h1 : ∀ j k, 3 ≤ j → S.1 j k = 0) (h2 : ∀ j k, 3 ≤ j → S.2 j k = 0) : bS (bkS X S) = S := by
  refine Prod.ext ?_ ?_
  · show bB 3 (bk X 1 3 S.1 S.2) 1 = S.1
    rw [bB_bk]
    funext j k
    unfold trim
    by_cases c : j < 3
    · rw [if_pos c]
    · rw [if_neg c, h1 j k (by omega)]
  · show bL 3 (bk X 1 3 S.1 S.2) 1 = S.2
    funext j k
    unfold bL
    by_cases c : j < 3
    · rw [if_pos c, bk_inJ c]
    · rw [if_neg c, h2 j k (by omega)]
theorem nextS_z : (∀ j k, 3 ≤ j → (t_nextS (bS X)).1 j k = 0) ∧ ∀ j k, 3 ≤ j → (t_nextS (bS X)).2 j k = 0 := by
  have a : ∀ j k, 3 ≤ j → bT X j k = 0 := fun j k hj => if_neg (by omega)
  have b : ∀ j k, 3 ≤ j → bTJ X j k = 0 := fun j k hj => if_neg (by omega)
  refine ⟨fun j k hj => ?_, fun j k hj => ?_⟩
  · show t_nextV (bT X) (bTJ X) j k = 0
    have z : ¬ j = 0 := by omega
    unfold t_nextV
    split
    · simp [t_n2, u2, z, a j k hj]
    · split <;> simp [t_rrV, t_n3, t_n2, u2, z, a j k hj]
  · show t_nextL (bT X) (bTJ X) j k = 0
    have z : ¬ j = 0 := by omega
    unfold t_nextL
    split
    · exact b j k hj
    · split
      · simp [t_rrL, u2l, z, b j k hj]
      · exact b j k hj
theorem TB.ok (h : TB X Y n m p) : okT (bT X) := okT_mk h.2.2.2.1.1 h.2.2.2.2.1.1 h.2.2.2.2.2.1.1 h.1 h.2.1 h.2.2.1
theorem k_next (h : okT (bT X)) : fX10_next X = some ((), bkS X (t_nextS (bS X))) := gd_t h
/-- a name that a plan has -/
def k_nm (s q : Nat) (X : X_) : Option (Int32 × X_) := if t_isName (bT X) = true then (if p_find (bP X q) (bPJ X q) s (X.2.1 1 7) = -1 then some (-1, wX X 3) else some (p_find (bP X q) (bPJ X q) s (X.2.1 1 7), X)) else some (-1, wX X 1)
theorem k_named {q s c : Nat} {a : Int32} (ha : a = nI s) (hs : s < 8) (hc : bP X q 1 s = nI c) (h12 : c ≤ 12) : fX10_named q a X = k_nm s q X := by
  subst ha
  have e : (nI s).toNatClampNeg = s := nI_clamp (by omega)
  unfold fX10_named
  rw [gd_t (by rw [e, hc, nI_clamp (by omega)]; exact ⟨rfl, hs, rfl, h12⟩), e]
  unfold k_nm t_nameI t_nameS t_name t_nameV
  by_cases c1 : t_isName (bT X) = true
  · rw [if_pos c1]
    have c1' : t_isName (bS X).1 = true := c1
    rw [if_pos c1', if_pos c1']
    by_cases c2 : p_find (bP X q) (bPJ X q) s (X.2.1 1 7) = -1
    · have c2' : p_find (bP X q) (bPJ X q) s ((bS X).2 0 7) = -1 := c2
      rw [if_pos c2, if_pos c2', c2']
      exact congrArg (fun z => some (-1, z)) (bkS_w 3)
    · have c2' : ¬ p_find (bP X q) (bPJ X q) s ((bS X).2 0 7) = -1 := c2
      rw [if_neg c2, if_neg c2']
      exact congrArg (fun z => some (_, z)) bkS_self
  · rw [if_neg c1]
    have c1' : ¬ t_isName (bS X).1 = true := c1
    rw [if_neg c1', if_neg c1']
    exact congrArg (fun z => some (-1, z)) (bkS_w 1)
theorem bP_bkS {S : m_TX} {q : Nat} (hq : 4 ≤ q) : bP (bkS X S) q = bP X q := bB_same (fun a h1 _ => bkS_row (by omega))
theorem bPJ_bkS {S : m_TX} {q : Nat} (hq : 4 ≤ q) : bPJ (bkS X S) q = bPJ X q := bL_same (fun a h1 _ => bkS_rowJ (by omega))
theorem k_nextNamed {q s c : Nat} {a : Int32} (ok : okT (bT X)) (hq : 4 ≤ q) (ha : a = nI s) (hs : s < 8) (hc : bP X q 1 s = nI c) (h12 : c ≤ 12) : fX10_nextNamed q a X = (ca fX10_next fun _ => fX10_named q a) X := by
  rw [ca_s (k_next ok)]
  subst ha
  have e : (nI s).toNatClampNeg = s := nI_clamp (by omega)
  unfold fX10_nextNamed fX10_named
  rw [gd_t (by rw [e, hc, nI_clamp (by omega)]; exact ⟨rfl, hs, rfl, h12, ok⟩), gd_t (by rw [e, bP_bkS hq, hc, nI_clamp (by omega)]; exact ⟨rfl, hs, rfl, h12⟩), bP_bkS hq, bPJ_bkS hq, bS_bkS nextS_z.1 nextS_z.2, bkS_bkS]
/-- a new name -/
def k_nw (q : Nat) (X : X_) : Option (Int32 × X_) := if t_isName (bT X) = true then (if p_knows (bP X q) (bPJ X q) (X.2.1 1 7) = true then some (0, wX X 3) else some (1, X)) else some (0, wX X 1)
theorem k_nextNew {q : Nat} (ok : okT (bT X)) (hq : 4 ≤ q) (hP : okP (bP X q)) : fX10_nextNewName q X = (ca fX10_next fun _ => k_nw q) X := by
  rw [ca_s (k_next ok)]
  unfold fX10_nextNewName k_nw
  rw [gd_t ⟨hP, ok⟩]
  have hb : bT (bkS X (t_nextS (bS X))) = (t_nextS (bS X)).1 := congrArg Prod.fst (bS_bkS (X := X) (nextS_z (X := X)).1 nextS_z.2)
  have hw : ∀ w, bkS X (t_wrongS (t_nextS (bS X)) w) = wX (bkS X (t_nextS (bS X))) w := fun w => by
    rw [← bkS_w, bkS_bkS, bS_bkS nextS_z.1 nextS_z.2]
  have hl : (bkS X (t_nextS (bS X))).2.1 1 7 = (t_nextS (bS X)).2 0 7 := congrFun (bk_inJ (b := 1) (j := 0) (by decide)) 7
  rw [hb, bP_bkS hq, bPJ_bkS hq, hl]
  unfold t_newI t_newS t_new t_newV
  by_cases c1 : t_isName (t_nextS (bS X)).1 = true
  · rw [if_pos c1, if_pos c1, c1, Bool.true_and]
    by_cases c2 : p_knows (bP X q) (bPJ X q) ((t_nextS (bS X)).2 0 7) = true
    · rw [if_pos c2, if_pos c2, c2]
      exact congrArg (fun z => some (0, z)) (hw 3)
    · rw [if_neg c2, if_neg c2, Bool.eq_false_iff.mpr c2]
      rfl
  · rw [if_neg c1, if_neg c1, Bool.eq_false_iff.mpr c1]
    exact congrArg (fun z => some (0, z)) (hw 1)
/-- a number -/
def k_nu (a b : Int32) (X : X_) : Option (Int32 × X_) := if X.1 1 4 = 2 then (if X.1 1 6 < a ∨ b < X.1 1 6 then some (-1, wX X 2) else some (X.1 1 6, X)) else some (-1, wX X 1)
theorem k_nextNumber {a b : Int32} (ok : okT (bT X)) : fX10_nextNumber a b X = (ca fX10_next fun _ => k_nu a b) X := by
  rw [ca_s (k_next ok)]
  unfold fX10_nextNumber k_nu
  rw [gd_t ok]
  have hw : ∀ w, bkS X (t_wrongS (t_nextS (bS X)) w) = wX (bkS X (t_nextS (bS X))) w := fun w => by
    rw [← bkS_w, bkS_bkS, bS_bkS nextS_z.1 nextS_z.2]
  have hr : ∀ k, (bkS X (t_nextS (bS X))).1 1 k = (t_nextS (bS X)).1 0 k := fun k => congrFun (bk_in0 (by decide)) k
  rw [hr, hr]
  unfold t_num t_numS t_numV
  by_cases c1 : (t_nextS (bS X)).1 0 4 = 2
  · rw [if_pos c1, if_pos c1, if_pos c1]
    by_cases c2 : (t_nextS (bS X)).1 0 6 < a ∨ b < (t_nextS (bS X)).1 0 6
    · rw [if_pos c2, if_pos c2, if_pos c2]
      exact congrArg (fun z => some (-1, z)) (hw 2)
    · rw [if_neg c2, if_neg c2, if_neg c2]
  · rw [if_neg c1, if_neg c1, if_neg c1]
    exact congrArg (fun z => some (-1, z)) (hw 1)
/-- one of two words -/
def k_tw (w : Int32) (X : X_) : Option (Int32 × X_) := if X.1 1 4 = 1 ∧ (X.1 1 8 = w ∨ X.1 1 8 = w + 1) then some (X.1 1 8 - w, X) else some (-1, wX X 1)
theorem k_nextTwo {w : Int32} (ok : okT (bT X)) : fX10_nextOfTwo w X = (ca fX10_next fun _ => k_tw w) X := by
  rw [ca_s (k_next ok)]
  unfold fX10_nextOfTwo k_tw
  rw [gd_t ok]
  have hw : bkS X (t_wrongS (t_nextS (bS X)) 1) = wX (bkS X (t_nextS (bS X))) 1 := by
    rw [← bkS_w, bkS_bkS, bS_bkS nextS_z.1 nextS_z.2]
  have hr : ∀ k, (bkS X (t_nextS (bS X))).1 1 k = (t_nextS (bS X)).1 0 k := fun k => congrFun (bk_in0 (by decide)) k
  rw [hr, hr]
  unfold t_two t_twoS t_twoV
  by_cases c1 : (t_nextS (bS X)).1 0 4 = 1 ∧ ((t_nextS (bS X)).1 0 8 = w ∨ (t_nextS (bS X)).1 0 8 = w + 1)
  · rw [if_pos c1, if_pos c1, if_pos c1]
  · rw [if_neg c1, if_neg c1, if_neg c1]
    exact congrArg (fun z => some (-1, z)) hw
theorem k_isSign (c : Int32) : fX10_isSign c X = some (b2 (t_isSign (bT X) c), X) := rfl
theorem k_mustBe (c : Int32) : fX10_mustBe c X = if t_isSign (bT X) c = true then some (1, X) else some (0, wX X 1) := by
  unfold fX10_mustBe t_mustV
  by_cases c1 : t_isSign (bT X) c = true
  · rw [if_pos c1, if_pos c1, c1]
    exact congrArg (fun z => some (1, z)) bkS_self
  · rw [if_neg c1, if_neg c1, Bool.eq_false_iff.mpr c1]
    exact congrArg (fun z => some (0, z)) (bkS_w 1)
end PM
