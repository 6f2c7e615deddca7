/-! the component's world, and its proved contracts as functions over X_ -/
def isIm (S : m_S) (b : Nat) : Prop := s_O S b 4 ∧ S.1 b 0 = some (b + 1) ∧ S.1 b 1 = some (b + 27) ∧ S.1 b 2 = some (b + 22)
theorem im_o {S : m_S} {b : Nat} (h : isIm S b) : s_O S b 4 := h.1
theorem im_r0 {S : m_S} {b : Nat} (h : isIm S b) : S.1 b 0 = some (b + 1) := h.2.1
theorem im_r1 {S : m_S} {b : Nat} (h : isIm S b) : S.1 b 1 = some (b + 27) := h.2.2.1
theorem im_r2 {S : m_S} {b : Nat} (h : isIm S b) : S.1 b 2 = some (b + 22) := h.2.2.2
/-- the component's objects, as its constructor makes them -/
def isW (q : m_S) : Prop := isLF q ∧ isText q ∧ isRead q ∧ isHist q ∧ isBook q ∧ isImg q ∧ isCouns q ∧ isDiag q ∧ isTag q ∧ (∀ s, isSt s → isState q s) ∧ (∀ p, isPl p → isPlan q p) ∧ ∀ p, isSe p → isSent q p
section WW
variable {q : m_S} {s p b : Nat}
theorem w_lf (hq : isW q) : isLF q := hq.1
theorem w_tx (hq : isW q) : isText q := hq.2.1
theorem w_rd (hq : isW q) : isRead q := hq.2.2.1
theorem w_hi (hq : isW q) : isHist q := hq.2.2.2.1
theorem w_bo (hq : isW q) : isBook q := hq.2.2.2.2.1
theorem w_ia (hq : isW q) : isImg q := hq.2.2.2.2.2.1
theorem w_co (hq : isW q) : isCouns q := hq.2.2.2.2.2.2.1
theorem w_di (hq : isW q) : isDiag q := hq.2.2.2.2.2.2.2.1
theorem w_tg (hq : isW q) : isTag q := hq.2.2.2.2.2.2.2.2.1
theorem w_st (hq : isW q) (h : isSt s) : isState q s := hq.2.2.2.2.2.2.2.2.2.1 s h
theorem w_pl (hq : isW q) (h : isPl p) : isPlan q p := hq.2.2.2.2.2.2.2.2.2.2.1 p h
theorem w_se (hq : isW q) (h : isSe p) : isSent q p := hq.2.2.2.2.2.2.2.2.2.2.2 p h
theorem w_im (hq : isW q) (h : isIb b) : isIm q b := by
  have h1 := w_ia hq
  rcases h with rfl | rfl
  · exact ⟨im_Ao h1, im_Ar0 h1, im_Ar1 h1, im_Ar2 h1⟩
  · exact ⟨im_Bo h1, im_Br0 h1, im_Br1 h1, im_Br2 h1⟩
end WW
theorem st47 : isSt 47 := Or.inl rfl
theorem st54 : isSt 54 := Or.inr (Or.inl rfl)
theorem stH {g : Nat} (h : g < 9) : isSt (63 + 7 * g) := Or.inr (Or.inr (Or.inr (Or.inr ⟨g, h, rfl⟩)))
theorem stI {b : Nat} (h : isIb b) : isSt (b + 27) := by
  rcases h with rfl | rfl
  · exact Or.inr (Or.inr (Or.inl rfl))
  · exact Or.inr (Or.inr (Or.inr (Or.inl rfl)))
theorem pl4 : isPl 4 := Or.inl rfl
theorem pl26 : isPl 26 := Or.inr (Or.inl rfl)
theorem plI {b : Nat} (h : isIb b) : isPl (b + 1) := by
  rcases h with rfl | rfl
  · exact Or.inr (Or.inr (Or.inl rfl))
  · exact Or.inr (Or.inr (Or.inr rfl))
theorem se130 : isSe 130 := Or.inl rfl
theorem se135 : isSe 135 := Or.inr (Or.inl rfl)
theorem seI {b : Nat} (h : isIb b) : isSe (b + 22) := by
  rcases h with rfl | rfl
  · exact Or.inr (Or.inr (Or.inl rfl))
  · exact Or.inr (Or.inr (Or.inr rfl))
theorem isSt.ne {s : Nat} (h : isSt s) : ¬ s = 62 ∧ 25 ≤ s := by
  rcases h with rfl | rfl | rfl | rfl | ⟨g, hg, rfl⟩ <;> omega
theorem isPl.ne {s : Nat} (h : isPl s) : ¬ s = 62 ∧ 4 ≤ s := by
  rcases h with rfl | rfl | rfl | rfl <;> omega
theorem isSe.ne {s : Nat} (h : isSe s) : ¬ s = 62 ∧ 130 ≤ s := by
  rcases h with rfl | rfl | rfl | rfl <;> omega
theorem isIb.ne {s : Nat} (h : isIb s) : ¬ s = 62 ∧ 150 ≤ s := by
  rcases h with rfl | rfl <;> omega
theorem m_qO {q : m_S} {g : Nat → Nat} {a c : Nat} : s_O (m_q q g) a c = s_O q a c := rfl
theorem m_qA {q : m_S} {g : Nat → Nat} {a t n : Nat} : s_A (m_q q g) a t n = s_A q a t n := rfl
section WQ
variable {q : m_S} {s p : Nat}
theorem qST (hq : isW q) (h : isSt s) (g : Nat → Nat) : isState (m_q q g) s := by
  have h1 := w_st hq h
  have h2 := h.ne.1
  unfold isState at h1 ⊢
  simpa only [m_q_ne h2, m_qO, m_qA] using h1
theorem qPL (hq : isW q) (h : isPl p) (g : Nat → Nat) : isPlan (m_q q g) p := by
  have h1 := w_pl hq h
  have h2 := h.ne.1
  unfold isPlan at h1 ⊢
  simpa only [m_q_ne h2, m_qO, m_qA] using h1
theorem qTX (hq : isW q) (g : Nat → Nat) : isText (m_q q g) := by
  have h1 := w_tx hq
  have h2 : ¬ 1 = 62 := by decide
  unfold isText at h1 ⊢
  simpa only [m_q_ne h2, m_qO, m_qA] using h1
end WQ
theorem okN_of {a : Int32} {n : Nat} (h : ¬ (a < 0 ∨ n ≤ a.toNatClampNeg)) : a = nI a.toNatClampNeg ∧ a.toNatClampNeg < n := by
  have h1 : ¬ a < 0 := fun e => h (Or.inl e)
  have h2 : ¬ n ≤ a.toNatClampNeg := fun e => h (Or.inr e)
  obtain ⟨j, hj, rfl⟩ := nI_of h1
  rw [nI_clamp hj] at h2 ⊢
  exact ⟨rfl, by omega⟩
theorem aX5_has (d : Nat) (q : m_S) (hq : isW q) (p : Nat) (a1 : Int32) (a2 : Int32) (hp : isPl p) : AC rI yX5_has cX5_has 3 (some .boolean) (d + 1) [.ref p, .int a1, .int a2] q (fX5_has p a1 a2) := fun X r X' e0 => by
  obtain ⟨c, e⟩ := gd_of e0
  clear e0
  obtain ⟨n1, hn0, e0⟩ : ∃ n, a1.toNatClampNeg = n ∧ a1 = nI n := ⟨_, rfl, c.1⟩
  simp only [hn0] at c e
  subst e0
  obtain ⟨rfl, rfl⟩ := Prod.mk.inj (Option.some.inj e)
  exact c_X5_has d (m_w q X) p n1 (bP X p) a2 (qPL hq hp _) (fun _ _ hj => (if_pos hj).symm) c.2
theorem aX5_routesOf (d : Nat) (q : m_S) (hq : isW q) (p : Nat) (a1 : Int32) (hp : isPl p) : AC rI yX5_routesOf cX5_routesOf 4 (some .int) (d + 1) [.ref p, .int a1] q (fX5_routesOf p a1) := fun X r X' e0 => by
  obtain ⟨c, e⟩ := gd_of e0
  clear e0
  obtain ⟨rfl, rfl⟩ := Prod.mk.inj (Option.some.inj e)
  exact c_X5_routesOf d (m_w q X) p (bP X p) (qPL hq hp _) (fun _ _ hj => (if_pos hj).symm) c a1
theorem aX5_routesWith (d : Nat) (q : m_S) (hq : isW q) (p : Nat) (a1 : Int32) (hp : isPl p) : AC rI yX5_routesWith cX5_routesWith 4 (some .int) (d + 1) [.ref p, .int a1] q (fX5_routesWith p a1) := fun X r X' e0 => by
  obtain ⟨c, e⟩ := gd_of e0
  clear e0
  obtain ⟨rfl, rfl⟩ := Prod.mk.inj (Option.some.inj e)
  exact c_X5_routesWith d (m_w q X) p (bP X p) (qPL hq hp _) (fun _ _ hj => (if_pos hj).symm) c a1
theorem aX5_pointsWithin (d : Nat) (q : m_S) (hq : isW q) (p : Nat) (a1 : Int32) (hp : isPl p) : AC rI yX5_pointsWithin cX5_pointsWithin 4 (some .int) (d + 1) [.ref p, .int a1] q (fX5_pointsWithin p a1) := fun X r X' e0 => by
  obtain ⟨c, e⟩ := gd_of e0
  clear e0
  obtain ⟨rfl, rfl⟩ := Prod.mk.inj (Option.some.inj e)
  exact c_X5_pointsWithin d (m_w q X) p (bP X p) (qPL hq hp _) (fun _ _ hj => (if_pos hj).symm) c a1
theorem aX5_routesNeeding (d : Nat) (q : m_S) (hq : isW q) (p : Nat) (a1 : Int32) (a2 : Int32) (hp : isPl p) : AC rI yX5_routesNeeding cX5_routesNeeding 6 (some .int) (d + 1) [.ref p, .int a1, .int a2] q (fX5_routesNeeding p a1 a2) := fun X r X' e0 => by
  obtain ⟨c, e⟩ := gd_of e0
  clear e0
  obtain ⟨rfl, rfl⟩ := Prod.mk.inj (Option.some.inj e)
  exact c_X5_routesNeeding d (m_w q X) p (bP X p) (qPL hq hp _) (fun _ _ hj => (if_pos hj).symm) c a1 a2
theorem aX5_signalAt (d : Nat) (q : m_S) (hq : isW q) (p : Nat) (a1 : Int32) (a2 : Int32) (hp : isPl p) : AC rI yX5_signalAt cX5_signalAt 4 (some .int) (d + 1) [.ref p, .int a1, .int a2] q (fX5_signalAt p a1 a2) := fun X r X' e0 => by
  obtain ⟨c, e⟩ := gd_of e0
  clear e0
  obtain ⟨rfl, rfl⟩ := Prod.mk.inj (Option.some.inj e)
  exact c_X5_signalAt d (m_w q X) p (bP X p) (qPL hq hp _) (fun _ _ hj => (if_pos hj).symm) c a1 a2
theorem aX5_trackBetween (d : Nat) (q : m_S) (hq : isW q) (p : Nat) (a1 : Int32) (a2 : Int32) (hp : isPl p) : AC rI yX5_trackBetween cX5_trackBetween 4 (some .int) (d + 1) [.ref p, .int a1, .int a2] q (fX5_trackBetween p a1 a2) := fun X r X' e0 => by
  obtain ⟨c, e⟩ := gd_of e0
  clear e0
  obtain ⟨rfl, rfl⟩ := Prod.mk.inj (Option.some.inj e)
  exact c_X5_trackBetween d (m_w q X) p (bP X p) (qPL hq hp _) (fun _ _ hj => (if_pos hj).symm) c a1 a2
theorem aX5_countLacking (d : Nat) (q : m_S) (hq : isW q) (p : Nat) (hp : isPl p) : AC rI yX5_countLacking cX5_countLacking 3 (some .int) (d + 3) [.ref p] q (fX5_countLacking p) := fun X r X' e0 => by
  obtain ⟨c, e⟩ := gd_of e0
  clear e0
  obtain ⟨rfl, rfl⟩ := Prod.mk.inj (Option.some.inj e)
  exact c_X5_countLacking d (m_w q X) p (bP X p) (qPL hq hp _) (fun _ _ hj => (if_pos hj).symm) c
theorem aX5_countSpare (d : Nat) (q : m_S) (hq : isW q) (p : Nat) (hp : isPl p) : AC rI yX5_countSpare cX5_countSpare 3 (some .int) (d + 2) [.ref p] q (fX5_countSpare p) := fun X r X' e0 => by
  obtain ⟨c, e⟩ := gd_of e0
  clear e0
  obtain ⟨rfl, rfl⟩ := Prod.mk.inj (Option.some.inj e)
  exact c_X5_countSpare d (m_w q X) p (bP X p) (qPL hq hp _) (fun _ _ hj => (if_pos hj).symm) c
theorem aX5_mostTogether (d : Nat) (q : m_S) (hq : isW q) (p : Nat) (hp : isPl p) : AC rI yX5_mostTogether cX5_mostTogether 3 (some .int) (d + 2) [.ref p] q (fX5_mostTogether p) := fun X r X' e0 => by
  obtain ⟨c, e⟩ := gd_of e0
  clear e0
  obtain ⟨rfl, rfl⟩ := Prod.mk.inj (Option.some.inj e)
  exact c_X5_mostTogether d (m_w q X) p (bP X p) (qPL hq hp _) (fun _ _ hj => (if_pos hj).symm) c
theorem aX5_lackingAt (d : Nat) (q : m_S) (hq : isW q) (p : Nat) (a1 : Int32) (hp : isPl p) : AC rI yX5_lackingAt cX5_lackingAt 6 (some .int) (d + 3) [.ref p, .int a1] q (fX5_lackingAt p a1) := fun X r X' e0 => by
  obtain ⟨c, e⟩ := gd_of e0
  clear e0
  obtain ⟨rfl, rfl⟩ := Prod.mk.inj (Option.some.inj e)
  exact c_X5_lackingAt d (m_w q X) p (bP X p) (qPL hq hp _) (fun _ _ hj => (if_pos hj).symm) c a1
theorem aX5_sectionOf (d : Nat) (q : m_S) (hq : isW q) (p : Nat) (a1 : Int32) (a2 : Int32) (hp : isPl p) : AC rI yX5_sectionOf cX5_sectionOf 3 (some .int) (d + 1) [.ref p, .int a1, .int a2] q (fX5_sectionOf p a1 a2) := fun X r X' e0 => by
  obtain ⟨c, e⟩ := gd_of e0
  clear e0
  obtain ⟨n1, hn0, e0⟩ : ∃ n, a1.toNatClampNeg = n ∧ a1 = nI n := ⟨_, rfl, c.1⟩
  simp only [hn0] at c e
  obtain ⟨n2, hn1, e1⟩ : ∃ n, a2.toNatClampNeg = n ∧ a2 = nI n := ⟨_, rfl, c.2.1⟩
  simp only [hn1] at c e
  subst e0
  subst e1
  obtain ⟨rfl, rfl⟩ := Prod.mk.inj (Option.some.inj e)
  exact c_X5_sectionOf d (m_w q X) p (bP X p) (qPL hq hp _) (fun _ _ hj => (if_pos hj).symm) c.2.2.1 n1 n2 c.2.2.2.1 c.2.2.2.2
theorem aX5_endOf (d : Nat) (q : m_S) (hq : isW q) (p : Nat) (a1 : Int32) (hp : isPl p) : AC rI yX5_endOf cX5_endOf 3 (some .int) (d + 2) [.ref p, .int a1] q (fX5_endOf p a1) := fun X r X' e0 => by
  obtain ⟨c, e⟩ := gd_of e0
  clear e0
  obtain ⟨n1, hn0, e0⟩ : ∃ n, a1.toNatClampNeg = n ∧ a1 = nI n := ⟨_, rfl, c.1⟩
  simp only [hn0] at c e
  subst e0
  obtain ⟨rfl, rfl⟩ := Prod.mk.inj (Option.some.inj e)
  exact c_X5_endOf d (m_w q X) p (bP X p) (qPL hq hp _) (fun _ _ hj => (if_pos hj).symm) c.2.1 n1 _ _ c.2.2.1 c.2.2.2.1 c.2.2.2.2.1 c.2.2.2.2.2.1 c.2.2.2.2.2.2
theorem aX5_leadsTo (d : Nat) (q : m_S) (hq : isW q) (p : Nat) (a1 : Int32) (a2 : Int32) (a3 : Int32) (hp : isPl p) : AC rI yX5_leadsTo cX5_leadsTo 6 (some .int) (d + 1) [.ref p, .int a1, .int a2, .int a3] q (fX5_leadsTo p a1 a2 a3) := fun X r X' e0 => by
  obtain ⟨c, e⟩ := gd_of e0
  clear e0
  obtain ⟨n1, hn0, e0⟩ : ∃ n, a1.toNatClampNeg = n ∧ a1 = nI n := ⟨_, rfl, c.1⟩
  simp only [hn0] at c e
  subst e0
  obtain ⟨rfl, rfl⟩ := Prod.mk.inj (Option.some.inj e)
  exact c_X5_leadsTo d (m_w q X) p (bP X p) (qPL hq hp _) (fun _ _ hj => (if_pos hj).symm) c.2.1 n1 a2 a3 c.2.2
theorem aX5_nameOf (d : Nat) (q : m_S) (hq : isW q) (p : Nat) (a1 : Int32) (a2 : Int32) (hp : isPl p) : AC rL yX5_nameOf cX5_nameOf 3 (some .long) (d + 1) [.ref p, .int a1, .int a2] q (fX5_nameOf p a1 a2) := fun X r X' e0 => by
  obtain ⟨c, e⟩ := gd_of e0
  clear e0
  obtain ⟨n1, hn0, e0⟩ : ∃ n, a1.toNatClampNeg = n ∧ a1 = nI n := ⟨_, rfl, c.1⟩
  simp only [hn0] at c e
  obtain ⟨n2, hn1, e1⟩ : ∃ n, a2.toNatClampNeg = n ∧ a2 = nI n := ⟨_, rfl, c.2.1⟩
  simp only [hn1] at c e
  subst e0
  subst e1
  obtain ⟨rfl, rfl⟩ := Prod.mk.inj (Option.some.inj e)
  exact c_X5_nameOf d (m_w q X) p (bP X p) (bPJ X p) (qPL hq hp _) (fun _ _ hj => (if_pos hj).symm) (fun _ _ hj => (if_pos hj).symm) n1 n2 c.2.2.1 c.2.2.2
theorem aX5_addOne (d : Nat) (q : m_S) (hq : isW q) (p : Nat) (a1 : Int32) (a2 : Int64) (hp : isPl p) : AC rI yX5_addOne cX5_addOne 5 (some .int) (d + 1) [.ref p, .int a1, .long a2] q (fX5_addOne p a1 a2) := fun X r X' e0 => by
  obtain ⟨c, e⟩ := gd_of e0
  clear e0
  obtain ⟨n1, hn0, e0⟩ : ∃ n, a1.toNatClampNeg = n ∧ a1 = nI n := ⟨_, rfl, c.1⟩
  simp only [hn0] at c e
  subst e0
  obtain ⟨rfl, rfl⟩ := Prod.mk.inj (Option.some.inj e)
  exact c_X5_addOne d (m_w q X) p (bP X p) (bPJ X p) (qPL hq hp _) (fun _ _ hj => (if_pos hj).symm) (fun _ _ hj => (if_pos hj).symm) n1 _ a2 c.2.1 c.2.2.1 c.2.2.2
theorem aX5_empty (d : Nat) (q : m_S) (hq : isW q) (p : Nat) (hp : isPl p) : AC rU yX5_empty cX5_empty 1 none (d + 2) [.ref p] q (fX5_empty p) := fun X r X' e0 => by
  have e := e0
  clear e0
  obtain ⟨rfl, rfl⟩ := Prod.mk.inj (Option.some.inj e)
  exact c_X5_empty d (m_w q X) p (bP X p) (bPJ X p) (qPL hq hp _) (fun _ _ hj => (if_pos hj).symm) (fun _ _ hj => (if_pos hj).symm)
theorem aX5_workOutClashes (d : Nat) (q : m_S) (hq : isW q) (p : Nat) (hp : isPl p) : AC rU yX5_workOutClashes cX5_workOutClashes 3 none (d + 2) [.ref p] q (fX5_workOutClashes p) := fun X r X' e0 => by
  obtain ⟨c, e⟩ := gd_of e0
  clear e0
  obtain ⟨rfl, rfl⟩ := Prod.mk.inj (Option.some.inj e)
  exact c_X5_workOutClashes d (m_w q X) p (bP X p) (bPJ X p) (qPL hq hp _) (fun _ _ hj => (if_pos hj).symm) (fun _ _ hj => (if_pos hj).symm) c
theorem aX5_copyFrom (d : Nat) (q : m_S) (hq : isW q) (p : Nat) (p2 : Nat) (hp : isPl p) (hp2 : isPl p2) : AC rU yX5_copyFrom cX5_copyFrom 2 none (d + 2) [.ref p, .ref p2] q (fX5_copyFrom p p2) := fun X r X' e0 => by
  obtain ⟨c, e⟩ := gd_of e0
  clear e0
  obtain ⟨rfl, rfl⟩ := Prod.mk.inj (Option.some.inj e)
  exact c_X5_copyFrom d (m_w q X) p p2 (bP X p) (bP X p2) (bPJ X p) (bPJ X p2) (qPL hq hp _) (qPL hq hp2 _) (fun _ _ hj => (if_pos hj).symm) (fun _ _ hj => (if_pos hj).symm) (fun _ _ hj => (if_pos hj).symm) (fun _ _ hj => (if_pos hj).symm) c
theorem aX8_copyFrom (d : Nat) (q : m_S) (hq : isW q) (s : Nat) (s2 : Nat) (hs : isSt s) (hs2 : isSt s2) : AC rU yX8_copyFrom cX8_copyFrom 2 none (d + 2) [.ref s, .ref s2] q (fX8_copyFrom s s2) := fun X r X' e0 => by
  obtain ⟨c, e⟩ := gd_of e0
  clear e0
  obtain ⟨rfl, rfl⟩ := Prod.mk.inj (Option.some.inj e)
  exact c_X8_copyFrom d (m_w q X) s s2 (bV X s) (bV X s2) (bVJ X s) (qST hq hs _) (qST hq hs2 _) (fun _ _ hj => (if_pos hj).symm) (fun _ _ hj => (if_pos hj).symm) (fun _ _ hj => (if_pos hj).symm) c
theorem aX8_start (d : Nat) (q : m_S) (hq : isW q) (s : Nat) (hs : isSt s) : AC rU yX8_start cX8_start 1 none (d + 3) [.ref s] q (fX8_start s) := fun X r X' e0 => by
  have e := e0
  clear e0
  obtain ⟨rfl, rfl⟩ := Prod.mk.inj (Option.some.inj e)
  exact c_X8_start d (m_w q X) s (bV X s) (bP X 4) (bVJ X s) (qST hq hs _) (qPL hq pl4 _) (fun _ _ hj => (if_pos hj).symm) (fun _ _ hj => (if_pos hj).symm) (fun _ _ hj => (if_pos hj).symm) (Or.inl hs.ne.2)
theorem aX8_occupied (d : Nat) (q : m_S) (hq : isW q) (s : Nat) (hs : isSt s) : AC rI yX8_occupied cX8_occupied 3 (some .int) (d + 1) [.ref s] q (fX8_occupied s) := fun X r X' e0 => by
  obtain ⟨c, e⟩ := gd_of e0
  clear e0
  obtain ⟨rfl, rfl⟩ := Prod.mk.inj (Option.some.inj e)
  exact c_X8_occupied d (m_w q X) s (bV X s) (bP X 4) (qST hq hs _) (qPL hq pl4 _) (fun _ _ hj => (if_pos hj).symm) (fun _ _ hj => (if_pos hj).symm) c 
theorem aX8_showing (d : Nat) (q : m_S) (hq : isW q) (s : Nat) (hs : isSt s) : AC rI yX8_showing cX8_showing 1 (some .int) (d + 2) [.ref s] q (fX8_showing s) := fun X r X' e0 => by
  obtain ⟨c, e⟩ := gd_of e0
  clear e0
  obtain ⟨rfl, rfl⟩ := Prod.mk.inj (Option.some.inj e)
  exact c_X8_showing d (m_w q X) s (bV X s) (bP X 4) (qST hq hs _) (qPL hq pl4 _) (fun _ _ hj => (if_pos hj).symm) (fun _ _ hj => (if_pos hj).symm) c 
theorem aX8_failing (d : Nat) (q : m_S) (hq : isW q) (s : Nat) (a1 : Int32) (hs : isSt s) : AC rI yX8_failing cX8_failing 2 (some .int) (d + 1) [.ref s, .int a1] q (fX8_failing s a1) := fun X r X' e0 => by
  obtain ⟨c, e⟩ := gd_of e0
  clear e0
  obtain ⟨rfl, rfl⟩ := Prod.mk.inj (Option.some.inj e)
  exact c_X8_failing d (m_w q X) s (bV X s) (bP X 4) (qST hq hs _) (qPL hq pl4 _) (fun _ _ hj => (if_pos hj).symm) (fun _ _ hj => (if_pos hj).symm) c a1
theorem aX8_leastTrainIn (d : Nat) (q : m_S) (hq : isW q) (s : Nat) (a1 : Int32) (a2 : Int32) (hs : isSt s) : AC rI yX8_leastTrainIn cX8_leastTrainIn 4 (some .int) (d + 1) [.ref s, .int a1, .int a2] q (fX8_leastTrainIn s a1 a2) := fun X r X' e0 => by
  obtain ⟨c, e⟩ := gd_of e0
  clear e0
  obtain ⟨rfl, rfl⟩ := Prod.mk.inj (Option.some.inj e)
  exact c_X8_leastTrainIn d (m_w q X) s (bV X s) (bP X 4) (qST hq hs _) (qPL hq pl4 _) (fun _ _ hj => (if_pos hj).symm) (fun _ _ hj => (if_pos hj).symm) c a1 a2
theorem aX8_notFree (d : Nat) (q : m_S) (hq : isW q) (s : Nat) (hs : isSt s) : AC rI yX8_notFree cX8_notFree 3 (some .int) (d + 1) [.ref s] q (fX8_notFree s) := fun X r X' e0 => by
  obtain ⟨c, e⟩ := gd_of e0
  clear e0
  obtain ⟨rfl, rfl⟩ := Prod.mk.inj (Option.some.inj e)
  exact c_X8_notFree d (m_w q X) s (bV X s) (bP X 4) (qST hq hs _) (qPL hq pl4 _) (fun _ _ hj => (if_pos hj).symm) (fun _ _ hj => (if_pos hj).symm) c 
theorem aX8_routesUsedBy (d : Nat) (q : m_S) (hq : isW q) (s : Nat) (a1 : Int32) (hs : isSt s) : AC rI yX8_routesUsedBy cX8_routesUsedBy 4 (some .int) (d + 1) [.ref s, .int a1] q (fX8_routesUsedBy s a1) := fun X r X' e0 => by
  obtain ⟨c, e⟩ := gd_of e0
  clear e0
  obtain ⟨rfl, rfl⟩ := Prod.mk.inj (Option.some.inj e)
  exact c_X8_routesUsedBy d (m_w q X) s (bV X s) (bP X 4) (qST hq hs _) (qPL hq pl4 _) (fun _ _ hj => (if_pos hj).symm) (fun _ _ hj => (if_pos hj).symm) c a1
theorem aX8_setRouteOf (d : Nat) (q : m_S) (hq : isW q) (s : Nat) (a1 : Int32) (hs : isSt s) : AC rI yX8_setRouteOf cX8_setRouteOf 3 (some .int) (d + 1) [.ref s, .int a1] q (fX8_setRouteOf s a1) := fun X r X' e0 => by
  obtain ⟨c, e⟩ := gd_of e0
  clear e0
  obtain ⟨rfl, rfl⟩ := Prod.mk.inj (Option.some.inj e)
  exact c_X8_setRouteOf d (m_w q X) s (bV X s) (bP X 4) (qST hq hs _) (qPL hq pl4 _) (fun _ _ hj => (if_pos hj).symm) (fun _ _ hj => (if_pos hj).symm) c a1
theorem aX8_trainsOut (d : Nat) (q : m_S) (hq : isW q) (s : Nat) (hs : isSt s) : AC rI yX8_trainsOut cX8_trainsOut 3 (some .int) (d + 1) [.ref s] q (fX8_trainsOut s) := fun X r X' e0 => by
  obtain ⟨c, e⟩ := gd_of e0
  clear e0
  obtain ⟨rfl, rfl⟩ := Prod.mk.inj (Option.some.inj e)
  exact c_X8_trainsOut d (m_w q X) s (bV X s) (bP X 4) (qST hq hs _) (qPL hq pl4 _) (fun _ _ hj => (if_pos hj).symm) (fun _ _ hj => (if_pos hj).symm) c 
theorem aX8_waitedByAll (d : Nat) (q : m_S) (hq : isW q) (s : Nat) (hs : isSt s) : AC rI yX8_waitedByAll cX8_waitedByAll 3 (some .int) (d + 1) [.ref s] q (fX8_waitedByAll s) := fun X r X' e0 => by
  obtain ⟨c, e⟩ := gd_of e0
  clear e0
  obtain ⟨rfl, rfl⟩ := Prod.mk.inj (Option.some.inj e)
  exact c_X8_waitedByAll d (m_w q X) s (bV X s) (bP X 4) (qST hq hs _) (qPL hq pl4 _) (fun _ _ hj => (if_pos hj).symm) (fun _ _ hj => (if_pos hj).symm) c 
theorem aX8_pointsAgainst (d : Nat) (q : m_S) (hq : isW q) (s : Nat) (a1 : Int32) (hs : isSt s) : AC rI yX8_pointsAgainst cX8_pointsAgainst 2 (some .int) (d + 1) [.ref s, .int a1] q (fX8_pointsAgainst s a1) := fun X r X' e0 => by
  obtain ⟨c, e⟩ := gd_of e0
  clear e0
  obtain ⟨n1, hn0, e0⟩ : ∃ n, a1.toNatClampNeg = n ∧ a1 = nI n := ⟨_, rfl, c.1⟩
  simp only [hn0] at c e
  subst e0
  obtain ⟨rfl, rfl⟩ := Prod.mk.inj (Option.some.inj e)
  exact c_X8_pointsAgainst d (m_w q X) s (bV X s) (bP X 4) (qST hq hs _) (qPL hq pl4 _) (fun _ _ hj => (if_pos hj).symm) (fun _ _ hj => (if_pos hj).symm) c.2.1 n1 c.2.2
theorem aX8_barring (d : Nat) (q : m_S) (hq : isW q) (s : Nat) (a1 : Int32) (hs : isSt s) : AC rI yX8_barring cX8_barring 3 (some .int) (d + 2) [.ref s, .int a1] q (fX8_barring s a1) := fun X r X' e0 => by
  obtain ⟨c, e⟩ := gd_of e0
  clear e0
  obtain ⟨n1, hn0, e0⟩ : ∃ n, a1.toNatClampNeg = n ∧ a1 = nI n := ⟨_, rfl, c.1⟩
  simp only [hn0] at c e
  subst e0
  obtain ⟨rfl, rfl⟩ := Prod.mk.inj (Option.some.inj e)
  exact c_X8_barring d (m_w q X) s (bV X s) (bP X 4) (qST hq hs _) (qPL hq pl4 _) (fun _ _ hj => (if_pos hj).symm) (fun _ _ hj => (if_pos hj).symm) c.2.1 n1 c.2.2
theorem aX8_freeByPuttingBack (d : Nat) (q : m_S) (hq : isW q) (s : Nat) (hs : isSt s) : AC rI yX8_freeByPuttingBack cX8_freeByPuttingBack 3 (some .int) (d + 2) [.ref s] q (fX8_freeByPuttingBack s) := fun X r X' e0 => by
  obtain ⟨c, e⟩ := gd_of e0
  clear e0
  obtain ⟨rfl, rfl⟩ := Prod.mk.inj (Option.some.inj e)
  exact c_X8_freeByPuttingBack d (m_w q X) s (bV X s) (bP X 4) (qST hq hs _) (qPL hq pl4 _) (fun _ _ hj => (if_pos hj).symm) (fun _ _ hj => (if_pos hj).symm) c.1 c.2.1
theorem aX8_perform (d : Nat) (q : m_S) (hq : isW q) (s : Nat) (a1 : Int32) (a2 : Int32) (a3 : Int32) (hs : isSt s) : AC rI yX8_perform cX8_perform 4 (some .int) (d + 5) [.ref s, .int a1, .int a2, .int a3] q (fX8_perform s a1 a2 a3) := fun X r X' e0 => by
  obtain ⟨c, e⟩ := gd_of e0
  clear e0
  obtain ⟨n2, hn0, e0⟩ : ∃ n, a2.toNatClampNeg = n ∧ a2 = nI n := ⟨_, rfl, c.1⟩
  simp only [hn0] at c e
  subst e0
  obtain ⟨rfl, rfl⟩ := Prod.mk.inj (Option.some.inj e)
  exact c_X8_perform d (m_w q X) s (bV X s) (bP X 4) (bVJ X s) (qST hq hs _) (qPL hq pl4 _) (fun _ _ hj => (if_pos hj).symm) (fun _ _ hj => (if_pos hj).symm) c.2.1.1 (fun _ _ hj => (if_pos hj).symm) hs.ne.2 a1 n2 a3 (fun e => Nat.lt_of_lt_of_le (c.2.2.1 e) c.2.1.1.2.2.2.2.1.2) c.2.2.2 (fun e => c.2.1.2.1 _ (c.2.2.1 (Or.inr e)))
theorem aX8_passOne (d : Nat) (q : m_S) (hq : isW q) (s : Nat) (hs : isSt s) : AC rU yX8_passOne cX8_passOne 2 none (d + 4) [.ref s] q (fX8_passOne s) := fun X r X' e0 => by
  obtain ⟨c, e⟩ := gd_of e0
  clear e0
  obtain ⟨rfl, rfl⟩ := Prod.mk.inj (Option.some.inj e)
  exact c_X8_passOne d (m_w q X) s (bV X s) (bP X 4) (bVJ X s) (qST hq hs _) (qPL hq pl4 _) (fun _ _ hj => (if_pos hj).symm) (fun _ _ hj => (if_pos hj).symm) c.1 (fun _ _ hj => (if_pos hj).symm) hs.ne.2 c.2
theorem aX8_passTicks (d : Nat) (q : m_S) (hq : isW q) (s : Nat) (a1 : Int32) (hs : isSt s) : AC rI yX8_passTicks cX8_passTicks 3 (some .int) (d + 5) [.ref s, .int a1] q (fX8_passTicks s a1) := fun X r X' e0 => by
  obtain ⟨c, e⟩ := gd_of e0
  clear e0
  obtain ⟨n1, hn0, e0⟩ : ∃ n, a1.toNatClampNeg = n ∧ a1 = nI n := ⟨_, rfl, c.1⟩
  simp only [hn0] at c e
  subst e0
  obtain ⟨rfl, rfl⟩ := Prod.mk.inj (Option.some.inj e)
  exact c_X8_passTicks d (m_w q X) s (bV X s) (bP X 4) (bVJ X s) (qST hq hs _) (qPL hq pl4 _) (fun _ _ hj => (if_pos hj).symm) (fun _ _ hj => (if_pos hj).symm) c.2.1 (fun _ _ hj => (if_pos hj).symm) hs.ne.2 c.2.2.1 n1 c.2.2.2
theorem aX8_passDrawn (d : Nat) (q : m_S) (hq : isW q) (s : Nat) (a1 : Int32) (a2 : Int32) (hs : isSt s) : AC rI yX8_passDrawn cX8_passDrawn 7 (some .int) (d + 6) [.ref s, .int a1, .int a2] q (fX8_passDrawn s a1 a2) := fun X r X' e0 => by
  obtain ⟨c, e⟩ := gd_of e0
  clear e0
  obtain ⟨n1, hn0, e0⟩ : ∃ n, a1.toNatClampNeg = n ∧ a1 = nI n := ⟨_, rfl, c.1⟩
  simp only [hn0] at c e
  subst e0
  obtain ⟨rfl, rfl⟩ := Prod.mk.inj (Option.some.inj e)
  exact c_X8_passDrawn d (m_w q X) s (bV X s) (bP X 4) (bVJ X s) (qST hq hs _) (qPL hq pl4 _) (fun _ _ hj => (if_pos hj).symm) (fun _ _ hj => (if_pos hj).symm) c.2.1 (fun _ _ hj => (if_pos hj).symm) hs.ne.2 c.2.2.1 n1 c.2.2.2 a2
theorem aX10_addNumber (d : Nat) (q : m_S) (hq : isW q) (a1 : Int32) : AC rU yX10_addNumber cX10_addNumber 3 none (d + 1) [.ref 1, .int a1] q (fX10_addNumber a1) := fun X r X' e0 => by
  obtain ⟨c, e⟩ := gd_of e0
  clear e0
  obtain ⟨rfl, rfl⟩ := Prod.mk.inj (Option.some.inj e)
  exact c_X10_addNumber d (m_w q X) (bT X) (bTJ X) (qTX hq _) (fun _ _ hj => (if_pos hj).symm) (fun _ _ hj => (if_pos hj).symm) _ a1 c.1 c.2
theorem aX10_begin (d : Nat) (q : m_S) (hq : isW q) (a1 : Int32) : AC rU yX10_begin cX10_begin 2 none (d + 1) [.ref 1, .int a1] q (fX10_begin a1) := fun X r X' e0 => by
  have e := e0
  clear e0
  obtain ⟨rfl, rfl⟩ := Prod.mk.inj (Option.some.inj e)
  exact c_X10_begin d (m_w q X) (bT X) (bTJ X) (qTX hq _) (fun _ _ hj => (if_pos hj).symm) (fun _ _ hj => (if_pos hj).symm) a1
theorem aX10_isSign (d : Nat) (q : m_S) (hq : isW q) (a1 : Int32) : AC rI yX10_isSign cX10_isSign 2 (some .boolean) (d + 1) [.ref 1, .int a1] q (fX10_isSign a1) := fun X r X' e0 => by
  have e := e0
  clear e0
  obtain ⟨rfl, rfl⟩ := Prod.mk.inj (Option.some.inj e)
  exact c_X10_isSign d (m_w q X) (bT X) (bTJ X) (qTX hq _) (fun _ _ hj => (if_pos hj).symm) (fun _ _ hj => (if_pos hj).symm) a1
theorem aX10_mustBe (d : Nat) (q : m_S) (hq : isW q) (a1 : Int32) : AC rI yX10_mustBe cX10_mustBe 2 (some .boolean) (d + 2) [.ref 1, .int a1] q (fX10_mustBe a1) := fun X r X' e0 => by
  have e := e0
  clear e0
  obtain ⟨rfl, rfl⟩ := Prod.mk.inj (Option.some.inj e)
  exact c_X10_mustBe d (m_w q X) (bT X) (bTJ X) (qTX hq _) (fun _ _ hj => (if_pos hj).symm) (fun _ _ hj => (if_pos hj).symm) a1
theorem aX10_wrong (d : Nat) (q : m_S) (hq : isW q) (a1 : Int32) : AC rI yX10_wrong cX10_wrong 2 (some .boolean) (d + 1) [.ref 1, .int a1] q (fX10_wrong a1) := fun X r X' e0 => by
  have e := e0
  clear e0
  obtain ⟨rfl, rfl⟩ := Prod.mk.inj (Option.some.inj e)
  exact cs_wrong d (m_w q X) (bS X) (qTX hq _) (fun _ _ hj => (if_pos hj).symm) (fun _ _ hj => (if_pos hj).symm) a1
theorem aX10_next (d : Nat) (q : m_S) (hq : isW q)  : AC rU yX10_next cX10_next 1 none (d + 3) [.ref 1] q (fX10_next ) := fun X r X' e0 => by
  obtain ⟨c, e⟩ := gd_of e0
  clear e0
  obtain ⟨rfl, rfl⟩ := Prod.mk.inj (Option.some.inj e)
  exact cs_next d (m_w q X) (bS X) (qTX hq _) (fun _ _ hj => (if_pos hj).symm) (fun _ _ hj => (if_pos hj).symm) c
theorem aX10_named (d : Nat) (q : m_S) (hq : isW q) (p : Nat) (a1 : Int32) (hp : isPl p) : AC rI yX10_named cX10_named 4 (some .int) (d + 2) [.ref 1, .ref p, .int a1] q (fX10_named p a1) := fun X r X' e0 => by
  obtain ⟨c, e⟩ := gd_of e0
  clear e0
  obtain ⟨n1, hn0, e0⟩ : ∃ n, a1.toNatClampNeg = n ∧ a1 = nI n := ⟨_, rfl, c.1⟩
  simp only [hn0] at c e
  subst e0
  obtain ⟨rfl, rfl⟩ := Prod.mk.inj (Option.some.inj e)
  exact cs_named d (m_w q X) (bS X) (qTX hq _) (fun _ _ hj => (if_pos hj).symm) (fun _ _ hj => (if_pos hj).symm) p (bP X p) (bPJ X p) (qPL hq hp _) (fun _ _ hj => (if_pos hj).symm) (fun _ _ hj => (if_pos hj).symm) hp.ne.2 n1 _ c.2.1 c.2.2.1 c.2.2.2
theorem aX10_nextNamed (d : Nat) (q : m_S) (hq : isW q) (p : Nat) (a1 : Int32) (hp : isPl p) : AC rI yX10_nextNamed cX10_nextNamed 3 (some .int) (d + 4) [.ref 1, .ref p, .int a1] q (fX10_nextNamed p a1) := fun X r X' e0 => by
  obtain ⟨c, e⟩ := gd_of e0
  clear e0
  obtain ⟨n1, hn0, e0⟩ : ∃ n, a1.toNatClampNeg = n ∧ a1 = nI n := ⟨_, rfl, c.1⟩
  simp only [hn0] at c e
  subst e0
  obtain ⟨rfl, rfl⟩ := Prod.mk.inj (Option.some.inj e)
  exact cs_nextNamed d (m_w q X) (bS X) (qTX hq _) (fun _ _ hj => (if_pos hj).symm) (fun _ _ hj => (if_pos hj).symm) p (bP X p) (bPJ X p) (qPL hq hp _) (fun _ _ hj => (if_pos hj).symm) (fun _ _ hj => (if_pos hj).symm) hp.ne.2 n1 _ c.2.1 c.2.2.1 c.2.2.2.1 c.2.2.2.2
theorem aX10_nextNewName (d : Nat) (q : m_S) (hq : isW q) (p : Nat) (hp : isPl p) : AC rI yX10_nextNewName cX10_nextNewName 2 (some .boolean) (d + 4) [.ref 1, .ref p] q (fX10_nextNewName p) := fun X r X' e0 => by
  obtain ⟨c, e⟩ := gd_of e0
  clear e0
  obtain ⟨rfl, rfl⟩ := Prod.mk.inj (Option.some.inj e)
  exact cs_nextNewName d (m_w q X) (bS X) (qTX hq _) (fun _ _ hj => (if_pos hj).symm) (fun _ _ hj => (if_pos hj).symm) p (bP X p) (bPJ X p) (qPL hq hp _) (fun _ _ hj => (if_pos hj).symm) (fun _ _ hj => (if_pos hj).symm) hp.ne.2 c.1 c.2
theorem aX10_nextNumber (d : Nat) (q : m_S) (hq : isW q) (a1 : Int32) (a2 : Int32) : AC rI yX10_nextNumber cX10_nextNumber 3 (some .int) (d + 4) [.ref 1, .int a1, .int a2] q (fX10_nextNumber a1 a2) := fun X r X' e0 => by
  obtain ⟨c, e⟩ := gd_of e0
  clear e0
  obtain ⟨rfl, rfl⟩ := Prod.mk.inj (Option.some.inj e)
  exact cs_nextNumber d (m_w q X) (bS X) (qTX hq _) (fun _ _ hj => (if_pos hj).symm) (fun _ _ hj => (if_pos hj).symm) a1 a2 c
theorem aX10_nextOfTwo (d : Nat) (q : m_S) (hq : isW q) (a1 : Int32) : AC rI yX10_nextOfTwo cX10_nextOfTwo 2 (some .int) (d + 4) [.ref 1, .int a1] q (fX10_nextOfTwo a1) := fun X r X' e0 => by
  obtain ⟨c, e⟩ := gd_of e0
  clear e0
  obtain ⟨rfl, rfl⟩ := Prod.mk.inj (Option.some.inj e)
  exact cs_nextOfTwo d (m_w q X) (bS X) (qTX hq _) (fun _ _ hj => (if_pos hj).symm) (fun _ _ hj => (if_pos hj).symm) a1 c
theorem aJ6_bitCount_0f7a4 (d : Nat) (q : m_S) (hq : isW q) (a1 : Int32) : AC rI yJ6_bitCount_0f7a4 cJ6_bitCount_0f7a4 1 (some .int) (d + 1) [.int a1] q (fJ6_bitCount_0f7a4 a1) := fun X r X' e0 => by
  have e := e0
  clear e0
  obtain ⟨rfl, rfl⟩ := Prod.mk.inj (Option.some.inj e)
  exact c_J6_bitCount_0f7a4 d (m_w q X) a1
theorem aJ7_fill_53178 (d : Nat) (q : m_S) (a n : Nat) (ha : s_A q a 0 n) (hn : n < 2 ^ 31) (v : Int32) : AC rU yJ7_fill_53178 cJ7_fill_53178 4 none (d + 1) [.ref a, .int v] q (fJ7_fill_53178 a n v) := fun X r X' e => by
  obtain ⟨rfl, rfl⟩ := Prod.mk.inj (Option.some.inj e)
  exact c_J7_fill_53178 d (m_w q X) a n v ha hn
theorem aX11_copyRow (d : Nat) (q : m_S) (a b n : Nat) (ha : s_A q a 0 n) (hb : s_A q b 0 n) (hn : n < 2 ^ 31) : AC rU yX11_copyRow cX11_copyRow 2 none (d + 1) [.ref a, .ref b] q (fX11_copyRow a b n) := fun X r X' e => by
  obtain ⟨rfl, rfl⟩ := Prod.mk.inj (Option.some.inj e)
  exact c_X11_copyRow d (m_w q X) a b n ha hb hn
