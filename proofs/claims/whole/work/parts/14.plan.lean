def ct (P : m_V) (k : Nat) : Nat := (P 1 k).toNatClampNeg
/-- the counts of a plan -/
def okP (P : m_V) : Prop := (P 1 0 = nI (ct P 0) ∧ ct P 0 ≤ 12) ∧ (P 1 1 = nI (ct P 1) ∧ ct P 1 ≤ 6) ∧ (P 1 2 = nI (ct P 2) ∧ ct P 2 ≤ 16) ∧ (P 1 3 = nI (ct P 3) ∧ ct P 3 ≤ 8) ∧ (P 1 4 = nI (ct P 4) ∧ ct P 4 ≤ 10) ∧ (P 1 6 = nI (ct P 6) ∧ ct P 6 ≤ 5)
def p_routesOf (P : m_V) (g : Int32) : Int32 := bo (fun r => decide (P 11 r = g)) (ct P 4)
def p_routesWith (P : m_V) (s : Int32) : Int32 := lo (fun r a => a ||| (((P 14 r >>> (s &&& 31)) &&& 1) <<< (nI r &&& 31))) (ct P 4) 0
def p_routesNeeding (P : m_V) (q l : Int32) : Int32 := lo (fun r a => a ||| ((((if l = 0 then P 15 r else P 16 r) >>> (q &&& 31)) &&& 1) <<< (nI r &&& 31))) (ct P 4) 0
def p_pointsWithin (P : m_V) (s : Int32) : Int32 := bo (fun q => decide (P 4 q = s)) (ct P 1)
def p_trackBetween (P : m_V) (a b : Int32) : Int32 := ff (fun k => decide (P 5 k = a ∧ P 6 k = b ∨ P 5 k = b ∧ P 6 k = a)) 0 (ct P 2)
def p_signalAt (P : m_V) (s w : Int32) : Int32 := ff (fun g => decide (P 9 g = s ∧ P 10 g = w)) 0 (ct P 3)
def p_conflict (P : m_V) (r q : Nat) : Bool := decide (P 11 r = P 11 q) || decide (¬ P 14 r &&& P 14 q = 0) || decide (¬ P 15 r &&& P 16 q = 0) || decide (¬ P 16 r &&& P 15 q = 0)
def p_isPeaceful (P : m_V) (s : Int32) : Bool := al (fun r => decide (¬ ((s >>> (nI r &&& 31)) &&& 1 = 1 ∧ ¬ P 18 r &&& s = 0))) (ct P 4)
def p_endOf (P : m_V) (r : Nat) : Int32 := if P 12 r = 0 then P 9 (P 11 r).toNatClampNeg else P 13 (r * 6 + ((P 12 r).toNatClampNeg - 1))
def p_leadsTo (P : m_V) (k : Nat) (f w : Int32) : Int32 := if (if w = 0 then P 5 k else P 6 k) = f then (if w = 0 then P 6 k else P 5 k) else -1
set_option maxRecDepth 100000 in
set_option maxHeartbeats 4000000 in
theorem c_X5_has (d : Nat) (h : m_H) (p s : Nat) (P : m_V) (i : Int32) (hp : isPlan h.2.2 p) (hP : blI h p 21 P) (hs : s < 8) : MC yX5_has cX5_has 3 (some .boolean) (d + 1) 0 0 [.ref p, .int (nI s), .int i] h (m_r (.int (b2 (decide (0 ≤ i ∧ i < P 1 s)))) h) := by
  refine mc_of (by decide +kernel) (Nat.le_of_ble_eq_true rfl) ?_
  show MW (yX5_has.cls, cX5_has, 3, (some .boolean), yX5_has.name, d + 1, 0, 0) 0 (0, 0) [(0, .ref p), (1, .int (nI s)), (2, .int i)] [] h _
  refine mw_iload_n 2 dX5_has_0 rfl ?_
  refine mw_if_lt (tgt := 18) dX5_has_1 (by decide) (fun c1 => ?_) (fun c1 => ?_)
  · refine mw_iconst (v := 0) dX5_has_18 rfl ?_
    refine mw_ireturn dX5_has_19 rfl rfl ⟨rfl, rfl⟩ ?_
    exact ⟨by simp_all [b2, i32_le, i32_lt, Int.not_le] <;> omega, rfl⟩
  · refine mw_iload_n 2 dX5_has_4 rfl ?_
    refine mw_aload_n 0 dX5_has_5 rfl ?_
    refine mw_getr 5 0 dX5_has_6 fl_X5_9 (by decide) (by decide) rfl (pl_o hp) (pl_r0 hp) ?_
    refine mw_iload_n 1 dX5_has_9 rfl ?_
    refine mw_iaN s dX5_has_10 (pl_a0 hp) (by omega) (by decide) rfl ?_
    refine mw_top (x' := (P 1 s)) (hP 1 s (by decide)) ?_
    refine mw_icmp_ge (tgt := 18) dX5_has_11 (by decide) (fun c11 => ?_) (fun c11 => ?_)
    · refine mw_iconst (v := 0) dX5_has_18 rfl ?_
      refine mw_ireturn dX5_has_19 rfl rfl ⟨rfl, rfl⟩ ?_
      exact ⟨by simp_all [b2, i32_le, i32_lt, Int.not_le] <;> omega, rfl⟩
    · refine mw_iconst (v := 1) dX5_has_14 rfl ?_
      refine mw_goto (tgt := 19) dX5_has_15 (by decide) ?_
      refine mw_ireturn dX5_has_19 rfl rfl ⟨rfl, rfl⟩ ?_
      exact ⟨by simp_all [b2, i32_le, i32_lt, Int.not_le] <;> omega, rfl⟩
set_option maxRecDepth 100000 in
set_option maxHeartbeats 4000000 in
theorem c_X5_routesOf (d : Nat) (h : m_H) (p : Nat) (P : m_V) (hp : isPlan h.2.2 p) (hP : blI h p 21 P) (hN : okP P) (g : Int32) : MC yX5_routesOf cX5_routesOf 4 (some .int) (d + 1) 0 0 [.ref p, .int g] h (m_r (.int (p_routesOf P g)) h) := by
  obtain ⟨⟨e0, b0⟩, ⟨e1, b1⟩, ⟨e2, b2⟩, ⟨e3, b3⟩, ⟨e4, b4⟩, ⟨e6, b6⟩⟩ := id hN
  refine mc_of (by decide +kernel) (Nat.le_of_ble_eq_true rfl) ?_
  show MW (yX5_routesOf.cls, cX5_routesOf, 4, (some .int), yX5_routesOf.name, d + 1, 0, 0) 0 (0, 0) [(0, .ref p), (1, .int g)] [] h _
  refine mw_iconst (v := 0) dX5_routesOf_0 rfl ?_
  refine mw_istore_n [(2, .int 0), (0, .ref p), (1, .int g)] dX5_routesOf_1 (Nat.le_of_ble_eq_true rfl) rfl ?_
  refine mw_iconst (v := 0) dX5_routesOf_2 rfl ?_
  refine mw_istore_n [(3, .int 0), (2, .int 0), (0, .ref p), (1, .int g)] dX5_routesOf_3 (Nat.le_of_ble_eq_true rfl) rfl ?_
  have L4 : ∀ (m4 : Nat) (i : Nat) (acc : Int32), (i ≤ ct P 4) → (acc = bo (fun r => decide (P 11 r = g)) i) → ct P 4 - i < m4 → MW (yX5_routesOf.cls, cX5_routesOf, 4, (some .int), yX5_routesOf.name, d + 1, 0, 0) 4 (0, 0) [(3, .int (nI i)), (2, .int acc), (0, .ref p), (1, .int g)] [] h (m_r (.int (p_routesOf P g)) h) := by
    intro m4
    induction m4 with
    | zero => intro i acc _ _ hm4; exact absurd hm4 (Nat.not_lt_zero _)
    | succ m4 ih4 =>
      intro i acc hi ha hm4
      refine mw_iload_n 0 dX5_routesOf_4 rfl ?_
      refine mw_aload_n 2 dX5_routesOf_5 rfl ?_
      refine mw_getr 5 0 dX5_routesOf_6 fl_X5_9 (by decide) (by decide) rfl (pl_o hp) (pl_r0 hp) ?_
      refine mw_iconst (v := 4) dX5_routesOf_9 rfl ?_
      refine mw_iaN 4 dX5_routesOf_10 (pl_a0 hp) (by decide) (by decide) (by decide) ?_
      refine mw_top (x' := (nI (ct P 4))) ((hP 1 4 (by decide)).trans e4) ?_
      refine mw_icmp_ge (tgt := 36) dX5_routesOf_11 (by decide) (fun c => ?_) (fun c => ?_)
      · have c := (nI_leI (by omega) (by omega)).mp c
        refine mw_iload_n 1 dX5_routesOf_36 rfl ?_
        refine mw_ireturn dX5_routesOf_37 rfl rfl ⟨rfl, rfl⟩ ?_
        exact ⟨by rw [ha, show i = ct P 4 by omega]; rfl, rfl⟩
      · have c := mt (nI_leI (by omega) (by omega)).mpr c
        refine mw_aload_n 2 dX5_routesOf_14 rfl ?_
        refine mw_getr 5 10 dX5_routesOf_15 fl_X5_43 (by decide) (by decide) rfl (pl_o hp) (pl_r10 hp) ?_
        refine mw_iload_n 0 dX5_routesOf_18 rfl ?_
        refine mw_iaN i dX5_routesOf_19 (pl_a10 hp) (by omega) (by decide) rfl ?_
        refine mw_top (x' := (P 11 i)) (hP 11 i (by decide)) ?_
        refine mw_iload_n 3 dX5_routesOf_20 rfl ?_
        refine mw_icmp_ne (tgt := 30) dX5_routesOf_21 (by decide) (fun c21 => ?_) (fun c21 => ?_)
        · refine mw_iinc 0 (nI (i + 1)) [(3, .int (nI (i + 1))), (2, .int acc), (0, .ref p), (1, .int g)] dX5_routesOf_30 rfl (nI_1 _) (Nat.le_of_ble_eq_true rfl) rfl ?_
          refine mw_goto (tgt := 4) dX5_routesOf_33 (by decide) ?_
          refine ih4 _ _ ?_ ?_ ?_
          · first | omega | (simp_all [bo, lo]; done) | (subst ha; simp only [bo, lo]; simp_all; done)
          · first | omega | (simp_all [bo, lo]; done) | (subst ha; simp only [bo, lo]; simp_all; done)
          · omega
        · refine mw_iload_n 1 dX5_routesOf_24 rfl ?_
          refine mw_iconst (v := 1) dX5_routesOf_25 rfl ?_
          refine mw_iload_n 0 dX5_routesOf_26 rfl ?_
          refine mw_ishl dX5_routesOf_27 ?_
          refine mw_ior dX5_routesOf_28 ?_
          refine mw_istore_n [(2, .int (acc ||| (1 <<< ((nI i) &&& 31)))), (3, .int (nI i)), (0, .ref p), (1, .int g)] dX5_routesOf_29 (Nat.le_of_ble_eq_true rfl) rfl ?_
          refine mw_iinc 1 (nI (i + 1)) [(3, .int (nI (i + 1))), (2, .int (acc ||| (1 <<< ((nI i) &&& 31)))), (0, .ref p), (1, .int g)] dX5_routesOf_30 rfl (nI_1 _) (Nat.le_of_ble_eq_true rfl) rfl ?_
          refine mw_goto (tgt := 4) dX5_routesOf_33 (by decide) ?_
          refine ih4 _ _ ?_ ?_ ?_
          · first | omega | (simp_all [bo, lo]; done) | (subst ha; simp only [bo, lo]; simp_all; done)
          · first | omega | (simp_all [bo, lo]; done) | (subst ha; simp only [bo, lo]; simp_all; done)
          · omega
  refine L4 _ 0 0 ?_ ?_ (Nat.lt_succ_self _)
  · first | omega | rfl | assumption | (simp_all [bo]; done)
  · first | omega | rfl | assumption | (simp_all [bo]; done)
set_option maxRecDepth 100000 in
set_option maxHeartbeats 4000000 in
theorem c_X5_routesWith (d : Nat) (h : m_H) (p : Nat) (P : m_V) (hp : isPlan h.2.2 p) (hP : blI h p 21 P) (hN : okP P) (s : Int32) : MC yX5_routesWith cX5_routesWith 4 (some .int) (d + 1) 0 0 [.ref p, .int s] h (m_r (.int (p_routesWith P s)) h) := by
  obtain ⟨⟨e0, b0⟩, ⟨e1, b1⟩, ⟨e2, b2⟩, ⟨e3, b3⟩, ⟨e4, b4⟩, ⟨e6, b6⟩⟩ := id hN
  refine mc_of (by decide +kernel) (Nat.le_of_ble_eq_true rfl) ?_
  show MW (yX5_routesWith.cls, cX5_routesWith, 4, (some .int), yX5_routesWith.name, d + 1, 0, 0) 0 (0, 0) [(0, .ref p), (1, .int s)] [] h _
  refine mw_iconst (v := 0) dX5_routesWith_0 rfl ?_
  refine mw_istore_n [(2, .int 0), (0, .ref p), (1, .int s)] dX5_routesWith_1 (Nat.le_of_ble_eq_true rfl) rfl ?_
  refine mw_iconst (v := 0) dX5_routesWith_2 rfl ?_
  refine mw_istore_n [(3, .int 0), (2, .int 0), (0, .ref p), (1, .int s)] dX5_routesWith_3 (Nat.le_of_ble_eq_true rfl) rfl ?_
  have L4 : ∀ (m4 : Nat) (i : Nat) (acc : Int32), (i ≤ ct P 4) → (acc = lo (fun r a => a ||| (((P 14 r >>> (s &&& 31)) &&& 1) <<< (nI r &&& 31))) i 0) → ct P 4 - i < m4 → MW (yX5_routesWith.cls, cX5_routesWith, 4, (some .int), yX5_routesWith.name, d + 1, 0, 0) 4 (0, 0) [(3, .int (nI i)), (2, .int acc), (0, .ref p), (1, .int s)] [] h (m_r (.int (p_routesWith P s)) h) := by
    intro m4
    induction m4 with
    | zero => intro i acc _ _ hm4; exact absurd hm4 (Nat.not_lt_zero _)
    | succ m4 ih4 =>
      intro i acc hi ha hm4
      refine mw_iload_n 0 dX5_routesWith_4 rfl ?_
      refine mw_aload_n 2 dX5_routesWith_5 rfl ?_
      refine mw_getr 5 0 dX5_routesWith_6 fl_X5_9 (by decide) (by decide) rfl (pl_o hp) (pl_r0 hp) ?_
      refine mw_iconst (v := 4) dX5_routesWith_9 rfl ?_
      refine mw_iaN 4 dX5_routesWith_10 (pl_a0 hp) (by decide) (by decide) (by decide) ?_
      refine mw_top (x' := (nI (ct P 4))) ((hP 1 4 (by decide)).trans e4) ?_
      refine mw_icmp_ge (tgt := 35) dX5_routesWith_11 (by decide) (fun c => ?_) (fun c => ?_)
      · have c := (nI_leI (by omega) (by omega)).mp c
        refine mw_iload_n 1 dX5_routesWith_35 rfl ?_
        refine mw_ireturn dX5_routesWith_36 rfl rfl ⟨rfl, rfl⟩ ?_
        exact ⟨by rw [ha, show i = ct P 4 by omega]; rfl, rfl⟩
      · have c := mt (nI_leI (by omega) (by omega)).mpr c
        refine mw_iload_n 1 dX5_routesWith_14 rfl ?_
        refine mw_aload_n 2 dX5_routesWith_15 rfl ?_
        refine mw_getr 5 13 dX5_routesWith_16 fl_X5_52 (by decide) (by decide) rfl (pl_o hp) (pl_r13 hp) ?_
        refine mw_iload_n 0 dX5_routesWith_19 rfl ?_
        refine mw_iaN i dX5_routesWith_20 (pl_a13 hp) (by omega) (by decide) rfl ?_
        refine mw_top (x' := (P 14 i)) (hP 14 i (by decide)) ?_
        refine mw_iload_n 3 dX5_routesWith_21 rfl ?_
        refine mw_ishr dX5_routesWith_22 ?_
        refine mw_iconst (v := 1) dX5_routesWith_23 rfl ?_
        refine mw_iand dX5_routesWith_24 ?_
        refine mw_iload_n 0 dX5_routesWith_25 rfl ?_
        refine mw_ishl dX5_routesWith_26 ?_
        refine mw_ior dX5_routesWith_27 ?_
        refine mw_istore_n [(2, .int (acc ||| ((((P 14 i) >>> (s &&& 31)) &&& 1) <<< ((nI i) &&& 31)))), (3, .int (nI i)), (0, .ref p), (1, .int s)] dX5_routesWith_28 (Nat.le_of_ble_eq_true rfl) rfl ?_
        refine mw_iinc 1 (nI (i + 1)) [(3, .int (nI (i + 1))), (2, .int (acc ||| ((((P 14 i) >>> (s &&& 31)) &&& 1) <<< ((nI i) &&& 31)))), (0, .ref p), (1, .int s)] dX5_routesWith_29 rfl (nI_1 _) (Nat.le_of_ble_eq_true rfl) rfl ?_
        refine mw_goto (tgt := 4) dX5_routesWith_32 (by decide) ?_
        refine ih4 _ _ ?_ ?_ ?_
        · first | omega | (simp_all [bo, lo]; done) | (subst ha; simp only [bo, lo]; simp_all; done)
        · first | omega | (simp_all [bo, lo]; done) | (subst ha; simp only [bo, lo]; simp_all; done)
        · omega
  refine L4 _ 0 0 ?_ ?_ (Nat.lt_succ_self _)
  · first | omega | rfl | assumption | (simp_all [bo]; done)
  · first | omega | rfl | assumption | (simp_all [bo]; done)
set_option maxRecDepth 100000 in
set_option maxHeartbeats 4000000 in
theorem c_X5_pointsWithin (d : Nat) (h : m_H) (p : Nat) (P : m_V) (hp : isPlan h.2.2 p) (hP : blI h p 21 P) (hN : okP P) (s : Int32) : MC yX5_pointsWithin cX5_pointsWithin 4 (some .int) (d + 1) 0 0 [.ref p, .int s] h (m_r (.int (p_pointsWithin P s)) h) := by
  obtain ⟨⟨e0, b0⟩, ⟨e1, b1⟩, ⟨e2, b2⟩, ⟨e3, b3⟩, ⟨e4, b4⟩, ⟨e6, b6⟩⟩ := id hN
  refine mc_of (by decide +kernel) (Nat.le_of_ble_eq_true rfl) ?_
  show MW (yX5_pointsWithin.cls, cX5_pointsWithin, 4, (some .int), yX5_pointsWithin.name, d + 1, 0, 0) 0 (0, 0) [(0, .ref p), (1, .int s)] [] h _
  refine mw_iconst (v := 0) dX5_pointsWithin_0 rfl ?_
  refine mw_istore_n [(2, .int 0), (0, .ref p), (1, .int s)] dX5_pointsWithin_1 (Nat.le_of_ble_eq_true rfl) rfl ?_
  refine mw_iconst (v := 0) dX5_pointsWithin_2 rfl ?_
  refine mw_istore_n [(3, .int 0), (2, .int 0), (0, .ref p), (1, .int s)] dX5_pointsWithin_3 (Nat.le_of_ble_eq_true rfl) rfl ?_
  have L4 : ∀ (m4 : Nat) (i : Nat) (acc : Int32), (i ≤ ct P 1) → (acc = bo (fun q => decide (P 4 q = s)) i) → ct P 1 - i < m4 → MW (yX5_pointsWithin.cls, cX5_pointsWithin, 4, (some .int), yX5_pointsWithin.name, d + 1, 0, 0) 4 (0, 0) [(3, .int (nI i)), (2, .int acc), (0, .ref p), (1, .int s)] [] h (m_r (.int (p_pointsWithin P s)) h) := by
    intro m4
    induction m4 with
    | zero => intro i acc _ _ hm4; exact absurd hm4 (Nat.not_lt_zero _)
    | succ m4 ih4 =>
      intro i acc hi ha hm4
      refine mw_iload_n 0 dX5_pointsWithin_4 rfl ?_
      refine mw_aload_n 2 dX5_pointsWithin_5 rfl ?_
      refine mw_getr 5 0 dX5_pointsWithin_6 fl_X5_9 (by decide) (by decide) rfl (pl_o hp) (pl_r0 hp) ?_
      refine mw_iconst (v := 1) dX5_pointsWithin_9 rfl ?_
      refine mw_iaN 1 dX5_pointsWithin_10 (pl_a0 hp) (by decide) (by decide) (by decide) ?_
      refine mw_top (x' := (nI (ct P 1))) ((hP 1 1 (by decide)).trans e1) ?_
      refine mw_icmp_ge (tgt := 36) dX5_pointsWithin_11 (by decide) (fun c => ?_) (fun c => ?_)
      · have c := (nI_leI (by omega) (by omega)).mp c
        refine mw_iload_n 1 dX5_pointsWithin_36 rfl ?_
        refine mw_ireturn dX5_pointsWithin_37 rfl rfl ⟨rfl, rfl⟩ ?_
        exact ⟨by rw [ha, show i = ct P 1 by omega]; rfl, rfl⟩
      · have c := mt (nI_leI (by omega) (by omega)).mpr c
        refine mw_aload_n 2 dX5_pointsWithin_14 rfl ?_
        refine mw_getr 5 3 dX5_pointsWithin_15 fl_X5_22 (by decide) (by decide) rfl (pl_o hp) (pl_r3 hp) ?_
        refine mw_iload_n 0 dX5_pointsWithin_18 rfl ?_
        refine mw_iaN i dX5_pointsWithin_19 (pl_a3 hp) (by omega) (by decide) rfl ?_
        refine mw_top (x' := (P 4 i)) (hP 4 i (by decide)) ?_
        refine mw_iload_n 3 dX5_pointsWithin_20 rfl ?_
        refine mw_icmp_ne (tgt := 30) dX5_pointsWithin_21 (by decide) (fun c21 => ?_) (fun c21 => ?_)
        · refine mw_iinc 0 (nI (i + 1)) [(3, .int (nI (i + 1))), (2, .int acc), (0, .ref p), (1, .int s)] dX5_pointsWithin_30 rfl (nI_1 _) (Nat.le_of_ble_eq_true rfl) rfl ?_
          refine mw_goto (tgt := 4) dX5_pointsWithin_33 (by decide) ?_
          refine ih4 _ _ ?_ ?_ ?_
          · first | omega | (simp_all [bo, lo]; done) | (subst ha; simp only [bo, lo]; simp_all; done)
          · first | omega | (simp_all [bo, lo]; done) | (subst ha; simp only [bo, lo]; simp_all; done)
          · omega
        · refine mw_iload_n 1 dX5_pointsWithin_24 rfl ?_
          refine mw_iconst (v := 1) dX5_pointsWithin_25 rfl ?_
          refine mw_iload_n 0 dX5_pointsWithin_26 rfl ?_
          refine mw_ishl dX5_pointsWithin_27 ?_
          refine mw_ior dX5_pointsWithin_28 ?_
          refine mw_istore_n [(2, .int (acc ||| (1 <<< ((nI i) &&& 31)))), (3, .int (nI i)), (0, .ref p), (1, .int s)] dX5_pointsWithin_29 (Nat.le_of_ble_eq_true rfl) rfl ?_
          refine mw_iinc 1 (nI (i + 1)) [(3, .int (nI (i + 1))), (2, .int (acc ||| (1 <<< ((nI i) &&& 31)))), (0, .ref p), (1, .int s)] dX5_pointsWithin_30 rfl (nI_1 _) (Nat.le_of_ble_eq_true rfl) rfl ?_
          refine mw_goto (tgt := 4) dX5_pointsWithin_33 (by decide) ?_
          refine ih4 _ _ ?_ ?_ ?_
          · first | omega | (simp_all [bo, lo]; done) | (subst ha; simp only [bo, lo]; simp_all; done)
          · first | omega | (simp_all [bo, lo]; done) | (subst ha; simp only [bo, lo]; simp_all; done)
          · omega
  refine L4 _ 0 0 ?_ ?_ (Nat.lt_succ_self _)
  · first | omega | rfl | assumption | (simp_all [bo]; done)
  · first | omega | rfl | assumption | (simp_all [bo]; done)
set_option maxRecDepth 100000 in
set_option maxHeartbeats 4000000 in
theorem c_X5_trackBetween (d : Nat) (h : m_H) (p : Nat) (P : m_V) (hp : isPlan h.2.2 p) (hP : blI h p 21 P) (hN : okP P) (a b : Int32) : MC yX5_trackBetween cX5_trackBetween 4 (some .int) (d + 1) 0 0 [.ref p, .int a, .int b] h (m_r (.int (p_trackBetween P a b)) h) := by
  obtain ⟨⟨e0, b0⟩, ⟨e1, b1⟩, ⟨e2, b2⟩, ⟨e3, b3⟩, ⟨e4, b4⟩, ⟨e6, b6⟩⟩ := id hN
  refine mc_of (by decide +kernel) (Nat.le_of_ble_eq_true rfl) ?_
  show MW (yX5_trackBetween.cls, cX5_trackBetween, 4, (some .int), yX5_trackBetween.name, d + 1, 0, 0) 0 (0, 0) [(0, .ref p), (1, .int a), (2, .int b)] [] h _
  refine mw_iconst (v := 0) dX5_trackBetween_0 rfl ?_
  refine mw_istore_n [(3, .int 0), (0, .ref p), (1, .int a), (2, .int b)] dX5_trackBetween_1 (Nat.le_of_ble_eq_true rfl) rfl ?_
  have L2 : ∀ (m2 : Nat) (i : Nat), (i ≤ ct P 2) → (p_trackBetween P a b = ff (fun k => decide (P 5 k = a ∧ P 6 k = b ∨ P 5 k = b ∧ P 6 k = a)) i (ct P 2 - i)) → ct P 2 - i < m2 → MW (yX5_trackBetween.cls, cX5_trackBetween, 4, (some .int), yX5_trackBetween.name, d + 1, 0, 0) 2 (0, 0) [(3, .int (nI i)), (0, .ref p), (1, .int a), (2, .int b)] [] h (m_r (.int (p_trackBetween P a b)) h) := by
    intro m2
    induction m2 with
    | zero => intro i _ _ hm2; exact absurd hm2 (Nat.not_lt_zero _)
    | succ m2 ih2 =>
      intro i hi ha hm2
      refine mw_iload_n 0 dX5_trackBetween_2 rfl ?_
      refine mw_aload_n 1 dX5_trackBetween_3 rfl ?_
      refine mw_getr 5 0 dX5_trackBetween_4 fl_X5_9 (by decide) (by decide) rfl (pl_o hp) (pl_r0 hp) ?_
      refine mw_iconst (v := 2) dX5_trackBetween_7 rfl ?_
      refine mw_iaN 2 dX5_trackBetween_8 (pl_a0 hp) (by decide) (by decide) (by decide) ?_
      refine mw_top (x' := (nI (ct P 2))) ((hP 1 2 (by decide)).trans e2) ?_
      refine mw_icmp_ge (tgt := 60) dX5_trackBetween_9 (by decide) (fun c => ?_) (fun c => ?_)
      · have c := (nI_leI (by omega) (by omega)).mp c
        refine mw_iconst (v := -1) dX5_trackBetween_60 rfl ?_
        refine mw_ireturn dX5_trackBetween_61 rfl rfl ⟨rfl, rfl⟩ ?_
        exact ⟨by rw [ha, show ct P 2 - i = 0 by omega]; rfl, rfl⟩
      · have c := mt (nI_leI (by omega) (by omega)).mpr c
        refine mw_aload_n 1 dX5_trackBetween_12 rfl ?_
        refine mw_getr 5 4 dX5_trackBetween_13 fl_X5_25 (by decide) (by decide) rfl (pl_o hp) (pl_r4 hp) ?_
        refine mw_iload_n 0 dX5_trackBetween_16 rfl ?_
        refine mw_iaN i dX5_trackBetween_17 (pl_a4 hp) (by omega) (by decide) rfl ?_
        refine mw_top (x' := (P 5 i)) (hP 5 i (by decide)) ?_
        refine mw_iload_n 2 dX5_trackBetween_18 rfl ?_
        refine mw_icmp_ne (tgt := 32) dX5_trackBetween_19 (by decide) (fun c19 => ?_) (fun c19 => ?_)
        · refine mw_aload_n 1 dX5_trackBetween_32 rfl ?_
          refine mw_getr 5 4 dX5_trackBetween_33 fl_X5_25 (by decide) (by decide) rfl (pl_o hp) (pl_r4 hp) ?_
          refine mw_iload_n 0 dX5_trackBetween_36 rfl ?_
          refine mw_iaN i dX5_trackBetween_37 (pl_a4 hp) (by omega) (by decide) rfl ?_
          refine mw_top (x' := (P 5 i)) (hP 5 i (by decide)) ?_
          refine mw_iload_n 3 dX5_trackBetween_38 rfl ?_
          refine mw_icmp_ne (tgt := 54) dX5_trackBetween_39 (by decide) (fun c39 => ?_) (fun c39 => ?_)
          · refine mw_iinc 0 (nI (i + 1)) [(3, .int (nI (i + 1))), (0, .ref p), (1, .int a), (2, .int b)] dX5_trackBetween_54 rfl (nI_1 _) (Nat.le_of_ble_eq_true rfl) rfl ?_
            refine mw_goto (tgt := 2) dX5_trackBetween_57 (by decide) ?_
            refine ih2 _ ?_ ?_ ?_
            · first | omega | (rw [ha, ff_step (by omega)]; simp_all; done)
            · first | omega | (rw [ha, ff_step (by omega)]; simp_all; done)
            · omega
          · refine mw_aload_n 1 dX5_trackBetween_42 rfl ?_
            refine mw_getr 5 5 dX5_trackBetween_43 fl_X5_28 (by decide) (by decide) rfl (pl_o hp) (pl_r5 hp) ?_
            refine mw_iload_n 0 dX5_trackBetween_46 rfl ?_
            refine mw_iaN i dX5_trackBetween_47 (pl_a5 hp) (by omega) (by decide) rfl ?_
            refine mw_top (x' := (P 6 i)) (hP 6 i (by decide)) ?_
            refine mw_iload_n 2 dX5_trackBetween_48 rfl ?_
            refine mw_icmp_ne (tgt := 54) dX5_trackBetween_49 (by decide) (fun c49 => ?_) (fun c49 => ?_)
            · refine mw_iinc 0 (nI (i + 1)) [(3, .int (nI (i + 1))), (0, .ref p), (1, .int a), (2, .int b)] dX5_trackBetween_54 rfl (nI_1 _) (Nat.le_of_ble_eq_true rfl) rfl ?_
              refine mw_goto (tgt := 2) dX5_trackBetween_57 (by decide) ?_
              refine ih2 _ ?_ ?_ ?_
              · first | omega | (rw [ha, ff_step (by omega)]; simp_all; done)
              · first | omega | (rw [ha, ff_step (by omega)]; simp_all; done)
              · omega
            · refine mw_iload_n 0 dX5_trackBetween_52 rfl ?_
              refine mw_ireturn dX5_trackBetween_53 rfl rfl ⟨rfl, rfl⟩ ?_
              exact ⟨by rw [ha, ff_step (by omega)]; simp_all, rfl⟩
        · refine mw_aload_n 1 dX5_trackBetween_22 rfl ?_
          refine mw_getr 5 5 dX5_trackBetween_23 fl_X5_28 (by decide) (by decide) rfl (pl_o hp) (pl_r5 hp) ?_
          refine mw_iload_n 0 dX5_trackBetween_26 rfl ?_
          refine mw_iaN i dX5_trackBetween_27 (pl_a5 hp) (by omega) (by decide) rfl ?_
          refine mw_top (x' := (P 6 i)) (hP 6 i (by decide)) ?_
          refine mw_iload_n 3 dX5_trackBetween_28 rfl ?_
          refine mw_icmp_eq (tgt := 52) dX5_trackBetween_29 (by decide) (fun c29 => ?_) (fun c29 => ?_)
          · refine mw_iload_n 0 dX5_trackBetween_52 rfl ?_
            refine mw_ireturn dX5_trackBetween_53 rfl rfl ⟨rfl, rfl⟩ ?_
            exact ⟨by rw [ha, ff_step (by omega)]; simp_all, rfl⟩
          · refine mw_aload_n 1 dX5_trackBetween_32 rfl ?_
            refine mw_getr 5 4 dX5_trackBetween_33 fl_X5_25 (by decide) (by decide) rfl (pl_o hp) (pl_r4 hp) ?_
            refine mw_iload_n 0 dX5_trackBetween_36 rfl ?_
            refine mw_iaN i dX5_trackBetween_37 (pl_a4 hp) (by omega) (by decide) rfl ?_
            refine mw_top (x' := (P 5 i)) (hP 5 i (by decide)) ?_
            refine mw_iload_n 3 dX5_trackBetween_38 rfl ?_
            refine mw_icmp_ne (tgt := 54) dX5_trackBetween_39 (by decide) (fun c39 => ?_) (fun c39 => ?_)
            · refine mw_iinc 0 (nI (i + 1)) [(3, .int (nI (i + 1))), (0, .ref p), (1, .int a), (2, .int b)] dX5_trackBetween_54 rfl (nI_1 _) (Nat.le_of_ble_eq_true rfl) rfl ?_
              refine mw_goto (tgt := 2) dX5_trackBetween_57 (by decide) ?_
              refine ih2 _ ?_ ?_ ?_
              · first | omega | (rw [ha, ff_step (by omega)]; simp_all; done)
              · first | omega | (rw [ha, ff_step (by omega)]; simp_all; done)
              · omega
            · refine mw_aload_n 1 dX5_trackBetween_42 rfl ?_
              refine mw_getr 5 5 dX5_trackBetween_43 fl_X5_28 (by decide) (by decide) rfl (pl_o hp) (pl_r5 hp) ?_
              refine mw_iload_n 0 dX5_trackBetween_46 rfl ?_
              refine mw_iaN i dX5_trackBetween_47 (pl_a5 hp) (by omega) (by decide) rfl ?_
              refine mw_top (x' := (P 6 i)) (hP 6 i (by decide)) ?_
              refine mw_iload_n 2 dX5_trackBetween_48 rfl ?_
              refine mw_icmp_ne (tgt := 54) dX5_trackBetween_49 (by decide) (fun c49 => ?_) (fun c49 => ?_)
              · refine mw_iinc 0 (nI (i + 1)) [(3, .int (nI (i + 1))), (0, .ref p), (1, .int a), (2, .int b)] dX5_trackBetween_54 rfl (nI_1 _) (Nat.le_of_ble_eq_true rfl) rfl ?_
                refine mw_goto (tgt := 2) dX5_trackBetween_57 (by decide) ?_
                refine ih2 _ ?_ ?_ ?_
                · first | omega | (rw [ha, ff_step (by omega)]; simp_all; done)
                · first | omega | (rw [ha, ff_step (by omega)]; simp_all; done)
                · omega
              · refine mw_iload_n 0 dX5_trackBetween_52 rfl ?_
                refine mw_ireturn dX5_trackBetween_53 rfl rfl ⟨rfl, rfl⟩ ?_
                exact ⟨by rw [ha, ff_step (by omega)]; simp_all, rfl⟩
  refine L2 _ 0 ?_ ?_ (Nat.lt_succ_self _)
  · first | omega | rfl | assumption | (simp_all [bo]; done)
  · rfl
