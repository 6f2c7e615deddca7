def bB (n : Nat) (X : X_) (b : Nat) : m_V := fun j k => if j < n then X.1 (b + j) k else 0
def bL (n : Nat) (X : X_) (b : Nat) : m_L := fun j k => if j < n then X.2.1 (b + j) k else 0
/-- a plan, a state, the text, a sentence -/
def bP (X : X_) (p : Nat) : m_V := bB 21 X p
def bPJ (X : X_) (p : Nat) : m_L := bL 21 X p
def bV (X : X_) (s : Nat) : m_V := bB 7 X s
def bVJ (X : X_) (s : Nat) : m_L := bL 7 X s
def bT (X : X_) : m_V := bB 3 X 1
def bTJ (X : X_) : m_L := bL 3 X 1
def bQ (X : X_) (p : Nat) : m_V := bB 5 X p
def bS (X : X_) : m_TX := (bT X, bTJ X)
def bk (X : X_) (b n : Nat) (V : m_V) (L : m_L) : X_ := (fun a k => if b ≤ a ∧ a < b + n then V (a - b) k else X.1 a k, fun a k => if b ≤ a ∧ a < b + n then L (a - b) k else X.2.1 a k, X.2.2)
def bkS (X : X_) (S : m_TX) : X_ := bk X 1 3 S.1 S.2
def isSt (s : Nat) : Prop := s = 47 ∨ s = 54 ∨ s = 177 ∨ s = 211 ∨ ∃ g, g < 9 ∧ s = 63 + 7 * g
def isPl (p : Nat) : Prop := p = 4 ∨ p = 26 ∨ p = 151 ∨ p = 185
def isSe (p : Nat) : Prop := p = 130 ∨ p = 135 ∨ p = 172 ∨ p = 206
def isIb (b : Nat) : Prop := b = 150 ∨ b = 184
noncomputable def fX5_has (p : Nat) (a1 : Int32) (a2 : Int32) : RM Int32 := gd (fun X => a1 = nI a1.toNatClampNeg ∧ a1.toNatClampNeg < 8) (fun X => some (b2 (decide (0 ≤ a2 ∧ a2 < bP X p 1 a1.toNatClampNeg)), X))
noncomputable def fX5_routesOf (p : Nat) (a1 : Int32) : RM Int32 := gd (fun X => okP (bP X p)) (fun X => some (p_routesOf (bP X p) a1, X))
noncomputable def fX5_routesWith (p : Nat) (a1 : Int32) : RM Int32 := gd (fun X => okP (bP X p)) (fun X => some (p_routesWith (bP X p) a1, X))
noncomputable def fX5_pointsWithin (p : Nat) (a1 : Int32) : RM Int32 := gd (fun X => okP (bP X p)) (fun X => some (p_pointsWithin (bP X p) a1, X))
noncomputable def fX5_routesNeeding (p : Nat) (a1 : Int32) (a2 : Int32) : RM Int32 := gd (fun X => okP (bP X p)) (fun X => some (p_routesNeeding (bP X p) a1 a2, X))
noncomputable def fX5_signalAt (p : Nat) (a1 : Int32) (a2 : Int32) : RM Int32 := gd (fun X => okP (bP X p)) (fun X => some (p_signalAt (bP X p) a1 a2, X))
noncomputable def fX5_trackBetween (p : Nat) (a1 : Int32) (a2 : Int32) : RM Int32 := gd (fun X => okP (bP X p)) (fun X => some (p_trackBetween (bP X p) a1 a2, X))
noncomputable def fX5_countLacking (p : Nat) : RM Int32 := gd (fun X => okP (bP X p)) (fun X => some (p_countLacking (bP X p) , X))
noncomputable def fX5_countSpare (p : Nat) : RM Int32 := gd (fun X => okP (bP X p)) (fun X => some (p_countSpare (bP X p) , X))
noncomputable def fX5_mostTogether (p : Nat) : RM Int32 := gd (fun X => okP (bP X p)) (fun X => some (p_mostTogether (bP X p) , X))
noncomputable def fX5_lackingAt (p : Nat) (a1 : Int32) : RM Int32 := gd (fun X => okP (bP X p)) (fun X => some (p_lackingAt (bP X p) a1, X))
noncomputable def fX5_sectionOf (p : Nat) (a1 : Int32) (a2 : Int32) : RM Int32 := gd (fun X => a1 = nI a1.toNatClampNeg ∧ a2 = nI a2.toNatClampNeg ∧ okP (bP X p) ∧ a1.toNatClampNeg < 10 ∧ a2.toNatClampNeg < 6) (fun X => some (bP X p 13 (a1.toNatClampNeg * 6 + a2.toNatClampNeg), X))
noncomputable def fX5_endOf (p : Nat) (a1 : Int32) : RM Int32 := gd (fun X => a1 = nI a1.toNatClampNeg ∧ okP (bP X p) ∧ a1.toNatClampNeg < 10 ∧ bP X p 12 a1.toNatClampNeg = nI (bP X p 12 a1.toNatClampNeg).toNatClampNeg ∧ (bP X p 12 a1.toNatClampNeg).toNatClampNeg ≤ 6 ∧ bP X p 11 a1.toNatClampNeg = nI (bP X p 11 a1.toNatClampNeg).toNatClampNeg ∧ (bP X p 11 a1.toNatClampNeg).toNatClampNeg < 8) (fun X => some (p_endOf (bP X p) a1.toNatClampNeg, X))
noncomputable def fX5_leadsTo (p : Nat) (a1 : Int32) (a2 : Int32) (a3 : Int32) : RM Int32 := gd (fun X => a1 = nI a1.toNatClampNeg ∧ okP (bP X p) ∧ a1.toNatClampNeg < 16) (fun X => some (p_leadsTo (bP X p) a1.toNatClampNeg a2 a3, X))
noncomputable def fX5_nameOf (p : Nat) (a1 : Int32) (a2 : Int32) : RM Int64 := gd (fun X => a1 = nI a1.toNatClampNeg ∧ a2 = nI a2.toNatClampNeg ∧ a1.toNatClampNeg < 8 ∧ a2.toNatClampNeg < 12) (fun X => some (bPJ X p 2 (a1.toNatClampNeg * 12 + a2.toNatClampNeg), X))
noncomputable def fX5_addOne (p : Nat) (a1 : Int32) (a2 : Int64) : RM Int32 := gd (fun X => a1 = nI a1.toNatClampNeg ∧ a1.toNatClampNeg < 8 ∧ bP X p 1 a1.toNatClampNeg = nI (bP X p 1 a1.toNatClampNeg).toNatClampNeg ∧ (bP X p 1 a1.toNatClampNeg).toNatClampNeg < 12) (fun X => some (nI (bP X p 1 a1.toNatClampNeg).toNatClampNeg, bk X p 21 (u2 (bP X p) 1 a1.toNatClampNeg (nI ((bP X p 1 a1.toNatClampNeg).toNatClampNeg + 1))) (u2l (bPJ X p) 2 (a1.toNatClampNeg * 12 + (bP X p 1 a1.toNatClampNeg).toNatClampNeg) a2)))
def fX5_empty (p : Nat) : RM Unit := (fun X => some ((), bk X p 21 (p_empty (bP X p)) (bPJ X p)))
noncomputable def fX5_workOutClashes (p : Nat) : RM Unit := gd (fun X => okP (bP X p)) (fun X => some ((), bk X p 21 (p_clash (bP X p) (ct (bP X p) 4)) (bPJ X p)))
noncomputable def fX5_copyFrom (p : Nat) (p2 : Nat) : RM Unit := gd (fun X => p2 + 21 ≤ p ∨ p + 21 ≤ p2) (fun X => some ((), bk X p 21 (p_copy (bP X p2) (bP X p)) (p_copyN (bPJ X p2) (bPJ X p))))
noncomputable def fX8_copyFrom (s : Nat) (s2 : Nat) : RM Unit := gd (fun X => s2 + 7 ≤ s ∨ s + 7 ≤ s2) (fun X => some ((), bk X s 7 (s_copy (bV X s2) (bV X s)) (bVJ X s)))
def fX8_start (s : Nat) : RM Unit := (fun X => some ((), bk X s 7 (s_start (bP X 4) (bV X s)) (bVJ X s)))
noncomputable def fX8_occupied (s : Nat) : RM Int32 := gd (fun X => okP (bP X 4)) (fun X => some (s_occupied (bP X 4) (bV X s), X))
noncomputable def fX8_showing (s : Nat) : RM Int32 := gd (fun X => okP (bP X 4)) (fun X => some (s_showing (bP X 4) (bV X s), X))
noncomputable def fX8_failing (s : Nat) (a1 : Int32) : RM Int32 := gd (fun X => okP (bP X 4)) (fun X => some (s_failing (bV X s) a1, X))
noncomputable def fX8_leastTrainIn (s : Nat) (a1 : Int32) (a2 : Int32) : RM Int32 := gd (fun X => okP (bP X 4)) (fun X => some (s_leastTrainIn (bP X 4) (bV X s) a1 a2, X))
noncomputable def fX8_notFree (s : Nat) : RM Int32 := gd (fun X => okP (bP X 4)) (fun X => some (s_notFree (bP X 4) (bV X s), X))
noncomputable def fX8_routesUsedBy (s : Nat) (a1 : Int32) : RM Int32 := gd (fun X => okP (bP X 4)) (fun X => some (s_routesUsedBy (bP X 4) (bV X s) a1, X))
noncomputable def fX8_setRouteOf (s : Nat) (a1 : Int32) : RM Int32 := gd (fun X => okP (bP X 4)) (fun X => some (s_setRouteOf (bP X 4) (bV X s) a1, X))
noncomputable def fX8_trainsOut (s : Nat) : RM Int32 := gd (fun X => okP (bP X 4)) (fun X => some (s_trainsOut (bP X 4) (bV X s), X))
noncomputable def fX8_waitedByAll (s : Nat) : RM Int32 := gd (fun X => okP (bP X 4)) (fun X => some (s_waitedByAll (bP X 4) (bV X s), X))
noncomputable def fX8_pointsAgainst (s : Nat) (a1 : Int32) : RM Int32 := gd (fun X => a1 = nI a1.toNatClampNeg ∧ okP (bP X 4) ∧ a1.toNatClampNeg < 10) (fun X => some (s_pointsAgainst (bP X 4) (bV X s) a1.toNatClampNeg, X))
noncomputable def fX8_barring (s : Nat) (a1 : Int32) : RM Int32 := gd (fun X => a1 = nI a1.toNatClampNeg ∧ okP (bP X 4) ∧ a1.toNatClampNeg < 10) (fun X => some (s_barring (bP X 4) a1.toNatClampNeg, X))
noncomputable def fX8_freeByPuttingBack (s : Nat) : RM Int32 := gd (fun X => wfP (bP X 4)) (fun X => some (s_freeBy (bP X 4) (bV X s), X))
noncomputable def fX8_perform (s : Nat) (a1 : Int32) (a2 : Int32) (a3 : Int32) : RM Int32 := gd (fun X => a2 = nI a2.toNatClampNeg ∧ wfP (bP X 4) ∧ (a1 = 13 ∨ a1 = 14 → a2.toNatClampNeg < ct (bP X 4) 4) ∧ (a1 = 15 → a2.toNatClampNeg < 6)) (fun X => some (s_perform (bP X 4) (bV X s) a1 a2.toNatClampNeg a3, bk X s 7 (s_performV (bP X 4) (bV X s) a1 a2.toNatClampNeg a3) (bVJ X s)))
noncomputable def fX8_passOne (s : Nat) : RM Unit := gd (fun X => wfP (bP X 4) ∧ okS (bP X 4) (bV X s)) (fun X => some ((), bk X s 7 (s_tickV (bP X 4) (bV X s)) (bVJ X s)))
noncomputable def fX8_passTicks (s : Nat) (a1 : Int32) : RM Int32 := gd (fun X => a1 = nI a1.toNatClampNeg ∧ wfP (bP X 4) ∧ okS (bP X 4) (bV X s) ∧ a1.toNatClampNeg ≤ 60) (fun X => some (nI (s_tk (bP X 4) a1.toNatClampNeg (bV X s)).1, bk X s 7 (s_tk (bP X 4) a1.toNatClampNeg (bV X s)).2 (bVJ X s)))
noncomputable def fX8_passDrawn (s : Nat) (a1 : Int32) (a2 : Int32) : RM Int32 := gd (fun X => a1 = nI a1.toNatClampNeg ∧ wfP (bP X 4) ∧ okS (bP X 4) (bV X s) ∧ a1.toNatClampNeg ≤ 60) (fun X => some (nI (s_dr (bP X 4) a1.toNatClampNeg a2 (bV X s)).1, bk X s 7 (s_dr (bP X 4) a1.toNatClampNeg a2 (bV X s)).2 (bVJ X s)))
noncomputable def fX10_addNumber (a1 : Int32) : RM Unit := gd (fun X => bT X 0 1 = nI (bT X 0 1).toNatClampNeg ∧ (bT X 0 1).toNatClampNeg + 4 ≤ 1460) (fun X => some ((), bk X 1 3 (t_add4 (bT X) (bT X 0 1).toNatClampNeg a1) (bTJ X)))
def fX10_begin (a1 : Int32) : RM Unit := (fun X => some ((), bk X 1 3 (t_begin (bT X) a1) (bTJ X)))
def fX10_isSign (a1 : Int32) : RM Int32 := (fun X => some (b2 (t_isSign (bT X) a1), X))
def fX10_mustBe (a1 : Int32) : RM Int32 := (fun X => some (b2 (t_isSign (bT X) a1), bk X 1 3 (t_mustV (bT X) a1) (bTJ X)))
def fX10_wrong (a1 : Int32) : RM Int32 := (fun X => some (0, bkS X (t_wrongS (bS X) a1)))
noncomputable def fX10_next : RM Unit := gd (fun X => okT (bT X)) (fun X => some ((), bkS X (t_nextS (bS X))))
noncomputable def fX10_named (p : Nat) (a1 : Int32) : RM Int32 := gd (fun X => a1 = nI a1.toNatClampNeg ∧ a1.toNatClampNeg < 8 ∧ bP X p 1 a1.toNatClampNeg = nI (bP X p 1 a1.toNatClampNeg).toNatClampNeg ∧ (bP X p 1 a1.toNatClampNeg).toNatClampNeg ≤ 12) (fun X => some (t_nameI (bP X p) (bPJ X p) (bS X) a1.toNatClampNeg, bkS X (t_nameS (bP X p) (bPJ X p) (bS X) a1.toNatClampNeg)))
noncomputable def fX10_nextNamed (p : Nat) (a1 : Int32) : RM Int32 := gd (fun X => a1 = nI a1.toNatClampNeg ∧ a1.toNatClampNeg < 8 ∧ bP X p 1 a1.toNatClampNeg = nI (bP X p 1 a1.toNatClampNeg).toNatClampNeg ∧ (bP X p 1 a1.toNatClampNeg).toNatClampNeg ≤ 12 ∧ okT (bT X)) (fun X => some (t_nameI (bP X p) (bPJ X p) (t_nextS (bS X)) a1.toNatClampNeg, bkS X (t_nameS (bP X p) (bPJ X p) (t_nextS (bS X)) a1.toNatClampNeg)))
noncomputable def fX10_nextNewName (p : Nat) : RM Int32 := gd (fun X => okP (bP X p) ∧ okT (bT X)) (fun X => some (t_newI (bP X p) (bPJ X p) (t_nextS (bS X)), bkS X (t_newS (bP X p) (bPJ X p) (t_nextS (bS X)))))
noncomputable def fX10_nextNumber (a1 : Int32) (a2 : Int32) : RM Int32 := gd (fun X => okT (bT X)) (fun X => some (t_num (t_nextS (bS X)).1 a1 a2, bkS X (t_numS (t_nextS (bS X)) a1 a2)))
noncomputable def fX10_nextOfTwo (a1 : Int32) : RM Int32 := gd (fun X => okT (bT X)) (fun X => some (t_two (t_nextS (bS X)).1 a1, bkS X (t_twoS (t_nextS (bS X)) a1)))
def fJ6_bitCount_0f7a4 (a1 : Int32) : RM Int32 := (fun X => some (bc a1, X))
def fJ7_fill_53178 (a n : Nat) (v : Int32) : RM Unit := fun X => some ((), (fun a' => if a' = a then (fun k => if k < n then v else X.1 a k) else X.1 a', X.2))
def fX11_copyRow (a b n : Nat) : RM Unit := fun X => some ((), (fun a' => if a' = b then cpy n (X.1 a) (X.1 b) else X.1 a', X.2))
