def ct (P : m_V) (k : Nat) : Nat := (P 1 k).toNatClampNeg
/-- the counts of a plan -/
def okP (P : m_V) : Prop := (P 1 0 = nI (ct P 0) ∧ ct P 0 ≤ 12) ∧ (P 1 1 = nI (ct P 1) ∧ ct P 1 ≤ 6) ∧ (P 1 2 = nI (ct P 2) ∧ ct P 2 ≤ 16) ∧ (P 1 3 = nI (ct P 3) ∧ ct P 3 ≤ 8) ∧ (P 1 4 = nI (ct P 4) ∧ ct P 4 ≤ 10) ∧ (P 1 6 = nI (ct P 6) ∧ ct P 6 ≤ 5)
def p_routesOf (P : m_V) (g : Int32) : Int32 := bo (fun r => decide (P 11 r = g)) (ct P 4)
def p_routesWith (P : m_V) (s : Int32) : Int32 := lo (fun r a => a ||| (((P 14 r >>> (s &&& 31)) &&& 1) <<< (nI r &&& 31))) (ct P 4) 0
def p_routesNeeding (P : m_V) (q l : Int32) : Int32 := lo (fun r a => a ||| ((((if l = 0 then P 15 r else P 16 r) >>> (q &&& 31)) &&& 1) <<< (nI r &&& 31))) (ct P 4) 0
def p_pointsWithin (P : m_V) (s : Int32) : Int32 := bo (fun q => decide (P 4 q = s)) (ct P 1)
def p_trackBetween (P : m_V) (a b : Int32) : Int32 := ff (fun k => decide (P 5 k = a ∧ P 6 k = b ∨ P 5 k = b ∧ P 6 k = a)) 0 (ct P 2)
def p_signalAt (P : m_V) (s w : Int32) : Int32 := ff (fun g => decide (P 9 g = s ∧ P 10 g = w)) 0 (ct P 3)
def p_conflict (P : m_V) (r q : Nat) : Bool := decide (P 11 r = P 11 q) || decide (¬ P 14 r &&& P 14 q = 0) || decide (¬ P 15 r &&& P 16 q = 0) || decide (¬ P 16 r &&& P 15 q = 0)
def p_isPeaceful (P : m_V) (s : Int32) : Bool := al (fun r => decide (¬ ((s >>> (nI r &&& 31)) &&& 1 = 1 ∧ ¬ P 18 r &&& s = 0))) (ct P 4)
def p_endOf (P : m_V) (r : Nat) : Int32 := if P 12 r = 0 then P 9 (P 11 r).toNatClampNeg else P 13 (r * 6 + ((P 12 r).toNatClampNeg - 1))
def p_leadsTo (P : m_V) (k : Nat) (f w : Int32) : Int32 := if (if w = 0 then P 5 k else P 6 k) = f then (if w = 0 then P 6 k else P 5 k) else -1
set_option maxRecDepth 100000 in
set_option maxHeartbeats 4000000 in
theorem c_X5_has (d : Nat) (h : m_H) (p s : Nat) (P : m_V) (i : Int32) (hp : isPlan h.2.2 p) (hP : blI h p 21 P) (hs : s < 8) : MC yX5_has cX5_has 3 (some .boolean) (d + 1) 0 0 [.ref p, .int (nI s), .int i] h (m_r (.int (b2 (decide (0 ≤ i ∧ i < P 1 s)))) h) := by
  refine mc_of (by decide +kernel) (Nat.le_of_ble_eq_true rfl) ?_
  show MW (yX5_has.cls, cX5_has, 3, (some .boolean), yX5_has.name, d + 1, 0, 0) 0 (0, 0) [(0, .ref p), (1, .int (nI s)), (2, .int i)] [] h _
  refine mw_iload_n 2 dX5_has_0 rfl ?_
  refine mw_if_lt (tgt := 18) dX5_has_1 (by decide) (fun c1 => ?_) (fun c1 => ?_)
  · refine mw_iconst (v := 0) dX5_has_18 rfl ?_
    refine mw_ireturn dX5_has_19 rfl rfl ⟨rfl, rfl⟩ ?_
    exact ⟨by simp_all [b2, i32_le, i32_lt, Int.not_le] <;> omega, rfl⟩
  · refine mw_iload_n 2 dX5_has_4 rfl ?_
    refine mw_aload_n 0 dX5_has_5 rfl ?_
    refine mw_getr 5 0 dX5_has_6 fl_X5_9 (by decide) (by decide) rfl (pl_o hp) (pl_r0 hp) ?_
    refine mw_iload_n 1 dX5_has_9 rfl ?_
    refine mw_iaN s dX5_has_10 (pl_a0 hp) (by omega) (by decide) rfl ?_
    refine mw_top (x' := (P 1 s)) (hP 1 s (by decide)) ?_
    refine mw_icmp_ge (tgt := 18) dX5_has_11 (by decide) (fun c11 => ?_) (fun c11 => ?_)
    · refine mw_iconst (v := 0) dX5_has_18 rfl ?_
      refine mw_ireturn dX5_has_19 rfl rfl ⟨rfl, rfl⟩ ?_
      exact ⟨by simp_all [b2, i32_le, i32_lt, Int.not_le] <;> omega, rfl⟩
    · refine mw_iconst (v := 1) dX5_has_14 rfl ?_
      refine mw_goto (tgt := 19) dX5_has_15 (by decide) ?_
      refine mw_ireturn dX5_has_19 rfl rfl ⟨rfl, rfl⟩ ?_
      exact ⟨by simp_all [b2, i32_le, i32_lt, Int.not_le] <;> omega, rfl⟩
set_option maxRecDepth 100000 in
set_option maxHeartbeats 4000000 in
theorem c_X5_routesOf (d : Nat) (h : m_H) (p : Nat) (P : m_V) (hp : isPlan h.2.2 p) (hP : blI h p 21 P) (hN : okP P) (g : Int32) : MC yX5_routesOf cX5_routesOf 4 (some .int) (d + 1) 0 0 [.ref p, .int g] h (m_r (.int (p_routesOf P g)) h) := by
  obtain ⟨e4, g4⟩ := hN.2.2.2.2.1
  refine mc_of (by decide +kernel) (Nat.le_of_ble_eq_true rfl) ?_
  show MW (yX5_routesOf.cls, cX5_routesOf, 4, (some .int), yX5_routesOf.name, d + 1, 0, 0) 0 (0, 0) [(0, .ref p), (1, .int g)] [] h _
  refine mw_iconst (v := 0) dX5_routesOf_0 rfl ?_
  refine mw_istore_n [(2, .int 0), (0, .ref p), (1, .int g)] dX5_routesOf_1 (Nat.le_of_ble_eq_true rfl) rfl ?_
  refine mw_iconst (v := 0) dX5_routesOf_2 rfl ?_
  refine mw_istore_n [(3, .int 0), (2, .int 0), (0, .ref p), (1, .int g)] dX5_routesOf_3 (Nat.le_of_ble_eq_true rfl) rfl ?_
  have L4 : ∀ (m4 : Nat) (i : Nat) (acc : Int32), (i ≤ ct P 4) → (acc = bo (fun r => decide (P 11 r = g)) i) → ct P 4 - i < m4 → MW (yX5_routesOf.cls, cX5_routesOf, 4, (some .int), yX5_routesOf.name, d + 1, 0, 0) 4 (0, 0) [(3, .int (nI i)), (2, .int acc), (0, .ref p), (1, .int g)] [] h (m_r (.int (p_routesOf P g)) h) := by
    intro m4
    induction m4 with
    | zero => intro i acc _ _ hm4; exact absurd hm4 (Nat.not_lt_zero _)
    | succ m4 ih4 =>
      intro i acc hi ha hm4
      refine mw_iload_n 0 dX5_routesOf_4 rfl ?_
      refine mw_aload_n 2 dX5_routesOf_5 rfl ?_
      refine mw_getr 5 0 dX5_routesOf_6 fl_X5_9 (by decide) (by decide) rfl (pl_o hp) (pl_r0 hp) ?_
      refine mw_iconst (v := 4) dX5_routesOf_9 rfl ?_
      refine mw_iaN 4 dX5_routesOf_10 (pl_a0 hp) (by decide) (by decide) (by decide) ?_
      refine mw_top (x' := (nI (ct P 4))) ((hP 1 4 (by decide)).trans e4) ?_
      refine mw_icmp_ge (tgt := 36) dX5_routesOf_11 (by decide) (fun c => ?_) (fun c => ?_)
      · have c := (nI_leI (by omega) (by omega)).mp c
        refine mw_iload_n 1 dX5_routesOf_36 rfl ?_
        refine mw_ireturn dX5_routesOf_37 rfl rfl ⟨rfl, rfl⟩ ?_
        exact ⟨by rw [ha, show i = ct P 4 by omega]; rfl, rfl⟩
      · have c := mt (nI_leI (by omega) (by omega)).mpr c
        refine mw_aload_n 2 dX5_routesOf_14 rfl ?_
        refine mw_getr 5 10 dX5_routesOf_15 fl_X5_43 (by decide) (by decide) rfl (pl_o hp) (pl_r10 hp) ?_
        refine mw_iload_n 0 dX5_routesOf_18 rfl ?_
        refine mw_iaN i dX5_routesOf_19 (pl_a10 hp) (by omega) (by decide) rfl ?_
        refine mw_top (x' := (P 11 i)) (hP 11 i (by decide)) ?_
        refine mw_iload_n 3 dX5_routesOf_20 rfl ?_
        refine mw_icmp_ne (tgt := 30) dX5_routesOf_21 (by decide) (fun c21 => ?_) (fun c21 => ?_)
        · refine mw_iinc 0 (nI (i + 1)) [(3, .int (nI (i + 1))), (2, .int acc), (0, .ref p), (1, .int g)] dX5_routesOf_30 rfl (nI_1 _) (Nat.le_of_ble_eq_true rfl) rfl ?_
          refine mw_goto (tgt := 4) dX5_routesOf_33 (by decide) ?_
          refine ih4 _ _ ?_ ?_ ?_
          · first | omega | (simp_all [bo, lo]; done) | (subst ha; simp only [bo, lo]; simp_all; done)
          · first | omega | (simp_all [bo, lo]; done) | (subst ha; simp only [bo, lo]; simp_all; done)
          · omega
        · refine mw_iload_n 1 dX5_routesOf_24 rfl ?_
          refine mw_iconst (v := 1) dX5_routesOf_25 rfl ?_
          refine mw_iload_n 0 dX5_routesOf_26 rfl ?_
          refine mw_ishl dX5_routesOf_27 ?_
          refine mw_ior dX5_routesOf_28 ?_
          refine mw_istore_n [(2, .int (acc ||| (1 <<< ((nI i) &&& 31)))), (3, .int (nI i)), (0, .ref p), (1, .int g)] dX5_routesOf_29 (Nat.le_of_ble_eq_true rfl) rfl ?_
          refine mw_iinc 1 (nI (i + 1)) [(3, .int (nI (i + 1))), (2, .int (acc ||| (1 <<< ((nI i) &&& 31)))), (0, .ref p), (1, .int g)] dX5_routesOf_30 rfl (nI_1 _) (Nat.le_of_ble_eq_true rfl) rfl ?_
          refine mw_goto (tgt := 4) dX5_routesOf_33 (by decide) ?_
          refine ih4 _ _ ?_ ?_ ?_
          · first | omega | (simp_all [bo, lo]; done) | (subst ha; simp only [bo, lo]; simp_all; done)
          · first | omega | (simp_all [bo, lo]; done) | (subst ha; simp only [bo, lo]; simp_all; done)
          · omega
  refine L4 _ 0 0 ?_ ?_ (Nat.lt_succ_self _)
  · first | omega | rfl | assumption | (simp_all [bo]; done)
  · first | omega | rfl | assumption | (simp_all [bo]; done)
set_option maxRecDepth 100000 in
set_option maxHeartbeats 4000000 in
theorem c_X5_routesWith (d : Nat) (h : m_H) (p : Nat) (P : m_V) (hp : isPlan h.2.2 p) (hP : blI h p 21 P) (hN : okP P) (s : Int32) : MC yX5_routesWith cX5_routesWith 4 (some .int) (d + 1) 0 0 [.ref p, .int s] h (m_r (.int (p_routesWith P s)) h) := by
  obtain ⟨e4, g4⟩ := hN.2.2.2.2.1
  refine mc_of (by decide +kernel) (Nat.le_of_ble_eq_true rfl) ?_
  show MW (yX5_routesWith.cls, cX5_routesWith, 4, (some .int), yX5_routesWith.name, d + 1, 0, 0) 0 (0, 0) [(0, .ref p), (1, .int s)] [] h _
  refine mw_iconst (v := 0) dX5_routesWith_0 rfl ?_
  refine mw_istore_n [(2, .int 0), (0, .ref p), (1, .int s)] dX5_routesWith_1 (Nat.le_of_ble_eq_true rfl) rfl ?_
  refine mw_iconst (v := 0) dX5_routesWith_2 rfl ?_
  refine mw_istore_n [(3, .int 0), (2, .int 0), (0, .ref p), (1, .int s)] dX5_routesWith_3 (Nat.le_of_ble_eq_true rfl) rfl ?_
  have L4 : ∀ (m4 : Nat) (i : Nat) (acc : Int32), (i ≤ ct P 4) → (acc = lo (fun r a => a ||| (((P 14 r >>> (s &&& 31)) &&& 1) <<< (nI r &&& 31))) i 0) → ct P 4 - i < m4 → MW (yX5_routesWith.cls, cX5_routesWith, 4, (some .int), yX5_routesWith.name, d + 1, 0, 0) 4 (0, 0) [(3, .int (nI i)), (2, .int acc), (0, .ref p), (1, .int s)] [] h (m_r (.int (p_routesWith P s)) h) := by
    intro m4
    induction m4 with
    | zero => intro i acc _ _ hm4; exact absurd hm4 (Nat.not_lt_zero _)
    | succ m4 ih4 =>
      intro i acc hi ha hm4
      refine mw_iload_n 0 dX5_routesWith_4 rfl ?_
      refine mw_aload_n 2 dX5_routesWith_5 rfl ?_
      refine mw_getr 5 0 dX5_routesWith_6 fl_X5_9 (by decide) (by decide) rfl (pl_o hp) (pl_r0 hp) ?_
      refine mw_iconst (v := 4) dX5_routesWith_9 rfl ?_
      refine mw_iaN 4 dX5_routesWith_10 (pl_a0 hp) (by decide) (by decide) (by decide) ?_
      refine mw_top (x' := (nI (ct P 4))) ((hP 1 4 (by decide)).trans e4) ?_
      refine mw_icmp_ge (tgt := 35) dX5_routesWith_11 (by decide) (fun c => ?_) (fun c => ?_)
      · have c := (nI_leI (by omega) (by omega)).mp c
        refine mw_iload_n 1 dX5_routesWith_35 rfl ?_
        refine mw_ireturn dX5_routesWith_36 rfl rfl ⟨rfl, rfl⟩ ?_
        exact ⟨by rw [ha, show i = ct P 4 by omega]; rfl, rfl⟩
      · have c := mt (nI_leI (by omega) (by omega)).mpr c
        refine mw_iload_n 1 dX5_routesWith_14 rfl ?_
        refine mw_aload_n 2 dX5_routesWith_15 rfl ?_
        refine mw_getr 5 13 dX5_routesWith_16 fl_X5_52 (by decide) (by decide) rfl (pl_o hp) (pl_r13 hp) ?_
        refine mw_iload_n 0 dX5_routesWith_19 rfl ?_
        refine mw_iaN i dX5_routesWith_20 (pl_a13 hp) (by omega) (by decide) rfl ?_
        refine mw_top (x' := (P 14 i)) (hP 14 i (by decide)) ?_
        refine mw_iload_n 3 dX5_routesWith_21 rfl ?_
        refine mw_ishr dX5_routesWith_22 ?_
        refine mw_iconst (v := 1) dX5_routesWith_23 rfl ?_
        refine mw_iand dX5_routesWith_24 ?_
        refine mw_iload_n 0 dX5_routesWith_25 rfl ?_
        refine mw_ishl dX5_routesWith_26 ?_
        refine mw_ior dX5_routesWith_27 ?_
        refine mw_istore_n [(2, .int (acc ||| ((((P 14 i) >>> (s &&& 31)) &&& 1) <<< ((nI i) &&& 31)))), (3, .int (nI i)), (0, .ref p), (1, .int s)] dX5_routesWith_28 (Nat.le_of_ble_eq_true rfl) rfl ?_
        refine mw_iinc 1 (nI (i + 1)) [(3, .int (nI (i + 1))), (2, .int (acc ||| ((((P 14 i) >>> (s &&& 31)) &&& 1) <<< ((nI i) &&& 31)))), (0, .ref p), (1, .int s)] dX5_routesWith_29 rfl (nI_1 _) (Nat.le_of_ble_eq_true rfl) rfl ?_
        refine mw_goto (tgt := 4) dX5_routesWith_32 (by decide) ?_
        refine ih4 _ _ ?_ ?_ ?_
        · first | omega | (simp_all [bo, lo]; done) | (subst ha; simp only [bo, lo]; simp_all; done)
        · first | omega | (simp_all [bo, lo]; done) | (subst ha; simp only [bo, lo]; simp_all; done)
        · omega
  refine L4 _ 0 0 ?_ ?_ (Nat.lt_succ_self _)
  · first | omega | rfl | assumption | (simp_all [bo]; done)
  · first | omega | rfl | assumption | (simp_all [bo]; done)
set_option maxRecDepth 100000 in
set_option maxHeartbeats 4000000 in
theorem c_X5_pointsWithin (d : Nat) (h : m_H) (p : Nat) (P : m_V) (hp : isPlan h.2.2 p) (hP : blI h p 21 P) (hN : okP P) (s : Int32) : MC yX5_pointsWithin cX5_pointsWithin 4 (some .int) (d + 1) 0 0 [.ref p, .int s] h (m_r (.int (p_pointsWithin P s)) h) := by
  obtain ⟨e1, g1⟩ := hN.2.1
  refine mc_of (by decide +kernel) (Nat.le_of_ble_eq_true rfl) ?_
  show MW (yX5_pointsWithin.cls, cX5_pointsWithin, 4, (some .int), yX5_pointsWithin.name, d + 1, 0, 0) 0 (0, 0) [(0, .ref p), (1, .int s)] [] h _
  refine mw_iconst (v := 0) dX5_pointsWithin_0 rfl ?_
  refine mw_istore_n [(2, .int 0), (0, .ref p), (1, .int s)] dX5_pointsWithin_1 (Nat.le_of_ble_eq_true rfl) rfl ?_
  refine mw_iconst (v := 0) dX5_pointsWithin_2 rfl ?_
  refine mw_istore_n [(3, .int 0), (2, .int 0), (0, .ref p), (1, .int s)] dX5_pointsWithin_3 (Nat.le_of_ble_eq_true rfl) rfl ?_
  have L4 : ∀ (m4 : Nat) (i : Nat) (acc : Int32), (i ≤ ct P 1) → (acc = bo (fun q => decide (P 4 q = s)) i) → ct P 1 - i < m4 → MW (yX5_pointsWithin.cls, cX5_pointsWithin, 4, (some .int), yX5_pointsWithin.name, d + 1, 0, 0) 4 (0, 0) [(3, .int (nI i)), (2, .int acc), (0, .ref p), (1, .int s)] [] h (m_r (.int (p_pointsWithin P s)) h) := by
    intro m4
    induction m4 with
    | zero => intro i acc _ _ hm4; exact absurd hm4 (Nat.not_lt_zero _)
    | succ m4 ih4 =>
      intro i acc hi ha hm4
      refine mw_iload_n 0 dX5_pointsWithin_4 rfl ?_
      refine mw_aload_n 2 dX5_pointsWithin_5 rfl ?_
      refine mw_getr 5 0 dX5_pointsWithin_6 fl_X5_9 (by decide) (by decide) rfl (pl_o hp) (pl_r0 hp) ?_
      refine mw_iconst (v := 1) dX5_pointsWithin_9 rfl ?_
      refine mw_iaN 1 dX5_pointsWithin_10 (pl_a0 hp) (by decide) (by decide) (by decide) ?_
      refine mw_top (x' := (nI (ct P 1))) ((hP 1 1 (by decide)).trans e1) ?_
      refine mw_icmp_ge (tgt := 36) dX5_pointsWithin_11 (by decide) (fun c => ?_) (fun c => ?_)
      · have c := (nI_leI (by omega) (by omega)).mp c
        refine mw_iload_n 1 dX5_pointsWithin_36 rfl ?_
        refine mw_ireturn dX5_pointsWithin_37 rfl rfl ⟨rfl, rfl⟩ ?_
        exact ⟨by rw [ha, show i = ct P 1 by omega]; rfl, rfl⟩
      · have c := mt (nI_leI (by omega) (by omega)).mpr c
        refine mw_aload_n 2 dX5_pointsWithin_14 rfl ?_
        refine mw_getr 5 3 dX5_pointsWithin_15 fl_X5_22 (by decide) (by decide) rfl (pl_o hp) (pl_r3 hp) ?_
        refine mw_iload_n 0 dX5_pointsWithin_18 rfl ?_
        refine mw_iaN i dX5_pointsWithin_19 (pl_a3 hp) (by omega) (by decide) rfl ?_
        refine mw_top (x' := (P 4 i)) (hP 4 i (by decide)) ?_
        refine mw_iload_n 3 dX5_pointsWithin_20 rfl ?_
        refine mw_icmp_ne (tgt := 30) dX5_pointsWithin_21 (by decide) (fun c21 => ?_) (fun c21 => ?_)
        · refine mw_iinc 0 (nI (i + 1)) [(3, .int (nI (i + 1))), (2, .int acc), (0, .ref p), (1, .int s)] dX5_pointsWithin_30 rfl (nI_1 _) (Nat.le_of_ble_eq_true rfl) rfl ?_
          refine mw_goto (tgt := 4) dX5_pointsWithin_33 (by decide) ?_
          refine ih4 _ _ ?_ ?_ ?_
          · first | omega | (simp_all [bo, lo]; done) | (subst ha; simp only [bo, lo]; simp_all; done)
          · first | omega | (simp_all [bo, lo]; done) | (subst ha; simp only [bo, lo]; simp_all; done)
          · omega
        · refine mw_iload_n 1 dX5_pointsWithin_24 rfl ?_
          refine mw_iconst (v := 1) dX5_pointsWithin_25 rfl ?_
          refine mw_iload_n 0 dX5_pointsWithin_26 rfl ?_
          refine mw_ishl dX5_pointsWithin_27 ?_
          refine mw_ior dX5_pointsWithin_28 ?_
          refine mw_istore_n [(2, .int (acc ||| (1 <<< ((nI i) &&& 31)))), (3, .int (nI i)), (0, .ref p), (1, .int s)] dX5_pointsWithin_29 (Nat.le_of_ble_eq_true rfl) rfl ?_
          refine mw_iinc 1 (nI (i + 1)) [(3, .int (nI (i + 1))), (2, .int (acc ||| (1 <<< ((nI i) &&& 31)))), (0, .ref p), (1, .int s)] dX5_pointsWithin_30 rfl (nI_1 _) (Nat.le_of_ble_eq_true rfl) rfl ?_
          refine mw_goto (tgt := 4) dX5_pointsWithin_33 (by decide) ?_
          refine ih4 _ _ ?_ ?_ ?_
          · first | omega | (simp_all [bo, lo]; done) | (subst ha; simp only [bo, lo]; simp_all; done)
          · first | omega | (simp_all [bo, lo]; done) | (subst ha; simp only [bo, lo]; simp_all; done)
          · omega
  refine L4 _ 0 0 ?_ ?_ (Nat.lt_succ_self _)
  · first | omega | rfl | assumption | (simp_all [bo]; done)
  · first | omega | rfl | assumption | (simp_all [bo]; done)
set_option maxRecDepth 100000 in
set_option maxHeartbeats 4000000 in
theorem c_X5_trackBetween (d : Nat) (h : m_H) (p : Nat) (P : m_V) (hp : isPlan h.2.2 p) (hP : blI h p 21 P) (hN : okP P) (a b : Int32) : MC yX5_trackBetween cX5_trackBetween 4 (some .int) (d + 1) 0 0 [.ref p, .int a, .int b] h (m_r (.int (p_trackBetween P a b)) h) := by
  obtain ⟨e2, g2⟩ := hN.2.2.1
  refine mc_of (by decide +kernel) (Nat.le_of_ble_eq_true rfl) ?_
  show MW (yX5_trackBetween.cls, cX5_trackBetween, 4, (some .int), yX5_trackBetween.name, d + 1, 0, 0) 0 (0, 0) [(0, .ref p), (1, .int a), (2, .int b)] [] h _
  refine mw_iconst (v := 0) dX5_trackBetween_0 rfl ?_
  refine mw_istore_n [(3, .int 0), (0, .ref p), (1, .int a), (2, .int b)] dX5_trackBetween_1 (Nat.le_of_ble_eq_true rfl) rfl ?_
  have L2 : ∀ (m2 : Nat) (i : Nat), (i ≤ ct P 2) → (p_trackBetween P a b = ff (fun k => decide (P 5 k = a ∧ P 6 k = b ∨ P 5 k = b ∧ P 6 k = a)) i (ct P 2 - i)) → ct P 2 - i < m2 → MW (yX5_trackBetween.cls, cX5_trackBetween, 4, (some .int), yX5_trackBetween.name, d + 1, 0, 0) 2 (0, 0) [(3, .int (nI i)), (0, .ref p), (1, .int a), (2, .int b)] [] h (m_r (.int (p_trackBetween P a b)) h) := by
    intro m2
    induction m2 with
    | zero => intro i _ _ hm2; exact absurd hm2 (Nat.not_lt_zero _)
    | succ m2 ih2 =>
      intro i hi ha hm2
      refine mw_iload_n 0 dX5_trackBetween_2 rfl ?_
      refine mw_aload_n 1 dX5_trackBetween_3 rfl ?_
      refine mw_getr 5 0 dX5_trackBetween_4 fl_X5_9 (by decide) (by decide) rfl (pl_o hp) (pl_r0 hp) ?_
      refine mw_iconst (v := 2) dX5_trackBetween_7 rfl ?_
      refine mw_iaN 2 dX5_trackBetween_8 (pl_a0 hp) (by decide) (by decide) (by decide) ?_
      refine mw_top (x' := (nI (ct P 2))) ((hP 1 2 (by decide)).trans e2) ?_
      refine mw_icmp_ge (tgt := 60) dX5_trackBetween_9 (by decide) (fun c => ?_) (fun c => ?_)
      · have c := (nI_leI (by omega) (by omega)).mp c
        refine mw_iconst (v := -1) dX5_trackBetween_60 rfl ?_
        refine mw_ireturn dX5_trackBetween_61 rfl rfl ⟨rfl, rfl⟩ ?_
        exact ⟨by rw [ha, show ct P 2 - i = 0 by omega]; rfl, rfl⟩
      · have c := mt (nI_leI (by omega) (by omega)).mpr c
        refine mw_aload_n 1 dX5_trackBetween_12 rfl ?_
        refine mw_getr 5 4 dX5_trackBetween_13 fl_X5_25 (by decide) (by decide) rfl (pl_o hp) (pl_r4 hp) ?_
        refine mw_iload_n 0 dX5_trackBetween_16 rfl ?_
        refine mw_iaN i dX5_trackBetween_17 (pl_a4 hp) (by omega) (by decide) rfl ?_
        refine mw_top (x' := (P 5 i)) (hP 5 i (by decide)) ?_
        refine mw_iload_n 2 dX5_trackBetween_18 rfl ?_
        refine mw_icmp_ne (tgt := 32) dX5_trackBetween_19 (by decide) (fun c19 => ?_) (fun c19 => ?_)
        · refine mw_aload_n 1 dX5_trackBetween_32 rfl ?_
          refine mw_getr 5 4 dX5_trackBetween_33 fl_X5_25 (by decide) (by decide) rfl (pl_o hp) (pl_r4 hp) ?_
          refine mw_iload_n 0 dX5_trackBetween_36 rfl ?_
          refine mw_iaN i dX5_trackBetween_37 (pl_a4 hp) (by omega) (by decide) rfl ?_
          refine mw_top (x' := (P 5 i)) (hP 5 i (by decide)) ?_
          refine mw_iload_n 3 dX5_trackBetween_38 rfl ?_
          refine mw_icmp_ne (tgt := 54) dX5_trackBetween_39 (by decide) (fun c39 => ?_) (fun c39 => ?_)
          · refine mw_iinc 0 (nI (i + 1)) [(3, .int (nI (i + 1))), (0, .ref p), (1, .int a), (2, .int b)] dX5_trackBetween_54 rfl (nI_1 _) (Nat.le_of_ble_eq_true rfl) rfl ?_
            refine mw_goto (tgt := 2) dX5_trackBetween_57 (by decide) ?_
            refine ih2 _ ?_ ?_ ?_
            · first | omega | (rw [ha, ff_step (by omega)]; simp_all; done)
            · first | omega | (rw [ha, ff_step (by omega)]; simp_all; done)
            · omega
          · refine mw_aload_n 1 dX5_trackBetween_42 rfl ?_
            refine mw_getr 5 5 dX5_trackBetween_43 fl_X5_28 (by decide) (by decide) rfl (pl_o hp) (pl_r5 hp) ?_
            refine mw_iload_n 0 dX5_trackBetween_46 rfl ?_
            refine mw_iaN i dX5_trackBetween_47 (pl_a5 hp) (by omega) (by decide) rfl ?_
            refine mw_top (x' := (P 6 i)) (hP 6 i (by decide)) ?_
            refine mw_iload_n 2 dX5_trackBetween_48 rfl ?_
            refine mw_icmp_ne (tgt := 54) dX5_trackBetween_49 (by decide) (fun c49 => ?_) (fun c49 => ?_)
            · refine mw_iinc 0 (nI (i + 1)) [(3, .int (nI (i + 1))), (0, .ref p), (1, .int a), (2, .int b)] dX5_trackBetween_54 rfl (nI_1 _) (Nat.le_of_ble_eq_true rfl) rfl ?_
              refine mw_goto (tgt := 2) dX5_trackBetween_57 (by decide) ?_
              refine ih2 _ ?_ ?_ ?_
              · first | omega | (rw [ha, ff_step (by omega)]; simp_all; done)
              · first | omega | (rw [ha, ff_step (by omega)]; simp_all; done)
              · omega
            · refine mw_iload_n 0 dX5_trackBetween_52 rfl ?_
              refine mw_ireturn dX5_trackBetween_53 rfl rfl ⟨rfl, rfl⟩ ?_
              exact ⟨by rw [ha, ff_step (by omega)]; simp_all, rfl⟩
        · refine mw_aload_n 1 dX5_trackBetween_22 rfl ?_
          refine mw_getr 5 5 dX5_trackBetween_23 fl_X5_28 (by decide) (by decide) rfl (pl_o hp) (pl_r5 hp) ?_
          refine mw_iload_n 0 dX5_trackBetween_26 rfl ?_
          refine mw_iaN i dX5_trackBetween_27 (pl_a5 hp) (by omega) (by decide) rfl ?_
          refine mw_top (x' := (P 6 i)) (hP 6 i (by decide)) ?_
          refine mw_iload_n 3 dX5_trackBetween_28 rfl ?_
          refine mw_icmp_eq (tgt := 52) dX5_trackBetween_29 (by decide) (fun c29 => ?_) (fun c29 => ?_)
          · refine mw_iload_n 0 dX5_trackBetween_52 rfl ?_
            refine mw_ireturn dX5_trackBetween_53 rfl rfl ⟨rfl, rfl⟩ ?_
            exact ⟨by rw [ha, ff_step (by omega)]; simp_all, rfl⟩
          · refine mw_aload_n 1 dX5_trackBetween_32 rfl ?_
            refine mw_getr 5 4 dX5_trackBetween_33 fl_X5_25 (by decide) (by decide) rfl (pl_o hp) (pl_r4 hp) ?_
            refine mw_iload_n 0 dX5_trackBetween_36 rfl ?_
            refine mw_iaN i dX5_trackBetween_37 (pl_a4 hp) (by omega) (by decide) rfl ?_
            refine mw_top (x' := (P 5 i)) (hP 5 i (by decide)) ?_
            refine mw_iload_n 3 dX5_trackBetween_38 rfl ?_
            refine mw_icmp_ne (tgt := 54) dX5_trackBetween_39 (by decide) (fun c39 => ?_) (fun c39 => ?_)
            · refine mw_iinc 0 (nI (i + 1)) [(3, .int (nI (i + 1))), (0, .ref p), (1, .int a), (2, .int b)] dX5_trackBetween_54 rfl (nI_1 _) (Nat.le_of_ble_eq_true rfl) rfl ?_
              refine mw_goto (tgt := 2) dX5_trackBetween_57 (by decide) ?_
              refine ih2 _ ?_ ?_ ?_
              · first | omega | (rw [ha, ff_step (by omega)]; simp_all; done)
              · first | omega | (rw [ha, ff_step (by omega)]; simp_all; done)
              · omega
            · refine mw_aload_n 1 dX5_trackBetween_42 rfl ?_
              refine mw_getr 5 5 dX5_trackBetween_43 fl_X5_28 (by decide) (by decide) rfl (pl_o hp) (pl_r5 hp) ?_
              refine mw_iload_n 0 dX5_trackBetween_46 rfl ?_
              refine mw_iaN i dX5_trackBetween_47 (pl_a5 hp) (by omega) (by decide) rfl ?_
              refine mw_top (x' := (P 6 i)) (hP 6 i (by decide)) ?_
              refine mw_iload_n 2 dX5_trackBetween_48 rfl ?_
              refine mw_icmp_ne (tgt := 54) dX5_trackBetween_49 (by decide) (fun c49 => ?_) (fun c49 => ?_)
              · refine mw_iinc 0 (nI (i + 1)) [(3, .int (nI (i + 1))), (0, .ref p), (1, .int a), (2, .int b)] dX5_trackBetween_54 rfl (nI_1 _) (Nat.le_of_ble_eq_true rfl) rfl ?_
                refine mw_goto (tgt := 2) dX5_trackBetween_57 (by decide) ?_
                refine ih2 _ ?_ ?_ ?_
                · first | omega | (rw [ha, ff_step (by omega)]; simp_all; done)
                · first | omega | (rw [ha, ff_step (by omega)]; simp_all; done)
                · omega
              · refine mw_iload_n 0 dX5_trackBetween_52 rfl ?_
                refine mw_ireturn dX5_trackBetween_53 rfl rfl ⟨rfl, rfl⟩ ?_
                exact ⟨by rw [ha, ff_step (by omega)]; simp_all, rfl⟩
  refine L2 _ 0 ?_ ?_ (Nat.lt_succ_self _)
  · first | omega | rfl | assumption | (simp_all [bo]; done)
  · rfl
set_option maxRecDepth 100000 in
set_option maxHeartbeats 4000000 in
theorem c_X5_signalAt (d : Nat) (h : m_H) (p : Nat) (P : m_V) (hp : isPlan h.2.2 p) (hP : blI h p 21 P) (hN : okP P) (s w : Int32) : MC yX5_signalAt cX5_signalAt 4 (some .int) (d + 1) 0 0 [.ref p, .int s, .int w] h (m_r (.int (p_signalAt P s w)) h) := by
  obtain ⟨e3, g3⟩ := hN.2.2.2.1
  refine mc_of (by decide +kernel) (Nat.le_of_ble_eq_true rfl) ?_
  show MW (yX5_signalAt.cls, cX5_signalAt, 4, (some .int), yX5_signalAt.name, d + 1, 0, 0) 0 (0, 0) [(0, .ref p), (1, .int s), (2, .int w)] [] h _
  refine mw_iconst (v := 0) dX5_signalAt_0 rfl ?_
  refine mw_istore_n [(3, .int 0), (0, .ref p), (1, .int s), (2, .int w)] dX5_signalAt_1 (Nat.le_of_ble_eq_true rfl) rfl ?_
  have L2 : ∀ (m2 : Nat) (i : Nat), (i ≤ ct P 3) → (p_signalAt P s w = ff (fun g => decide (P 9 g = s ∧ P 10 g = w)) i (ct P 3 - i)) → ct P 3 - i < m2 → MW (yX5_signalAt.cls, cX5_signalAt, 4, (some .int), yX5_signalAt.name, d + 1, 0, 0) 2 (0, 0) [(3, .int (nI i)), (0, .ref p), (1, .int s), (2, .int w)] [] h (m_r (.int (p_signalAt P s w)) h) := by
    intro m2
    induction m2 with
    | zero => intro i _ _ hm2; exact absurd hm2 (Nat.not_lt_zero _)
    | succ m2 ih2 =>
      intro i hi ha hm2
      refine mw_iload_n 0 dX5_signalAt_2 rfl ?_
      refine mw_aload_n 1 dX5_signalAt_3 rfl ?_
      refine mw_getr 5 0 dX5_signalAt_4 fl_X5_9 (by decide) (by decide) rfl (pl_o hp) (pl_r0 hp) ?_
      refine mw_iconst (v := 3) dX5_signalAt_7 rfl ?_
      refine mw_iaN 3 dX5_signalAt_8 (pl_a0 hp) (by decide) (by decide) (by decide) ?_
      refine mw_top (x' := (nI (ct P 3))) ((hP 1 3 (by decide)).trans e3) ?_
      refine mw_icmp_ge (tgt := 40) dX5_signalAt_9 (by decide) (fun c => ?_) (fun c => ?_)
      · have c := (nI_leI (by omega) (by omega)).mp c
        refine mw_iconst (v := -1) dX5_signalAt_40 rfl ?_
        refine mw_ireturn dX5_signalAt_41 rfl rfl ⟨rfl, rfl⟩ ?_
        exact ⟨by rw [ha, show ct P 3 - i = 0 by omega]; rfl, rfl⟩
      · have c := mt (nI_leI (by omega) (by omega)).mpr c
        refine mw_aload_n 1 dX5_signalAt_12 rfl ?_
        refine mw_getr 5 8 dX5_signalAt_13 fl_X5_37 (by decide) (by decide) rfl (pl_o hp) (pl_r8 hp) ?_
        refine mw_iload_n 0 dX5_signalAt_16 rfl ?_
        refine mw_iaN i dX5_signalAt_17 (pl_a8 hp) (by omega) (by decide) rfl ?_
        refine mw_top (x' := (P 9 i)) (hP 9 i (by decide)) ?_
        refine mw_iload_n 2 dX5_signalAt_18 rfl ?_
        refine mw_icmp_ne (tgt := 34) dX5_signalAt_19 (by decide) (fun c19 => ?_) (fun c19 => ?_)
        · refine mw_iinc 0 (nI (i + 1)) [(3, .int (nI (i + 1))), (0, .ref p), (1, .int s), (2, .int w)] dX5_signalAt_34 rfl (nI_1 _) (Nat.le_of_ble_eq_true rfl) rfl ?_
          refine mw_goto (tgt := 2) dX5_signalAt_37 (by decide) ?_
          refine ih2 _ ?_ ?_ ?_
          · first | omega | (rw [ha, ff_step (by omega)]; simp_all; done)
          · first | omega | (rw [ha, ff_step (by omega)]; simp_all; done)
          · omega
        · refine mw_aload_n 1 dX5_signalAt_22 rfl ?_
          refine mw_getr 5 9 dX5_signalAt_23 fl_X5_40 (by decide) (by decide) rfl (pl_o hp) (pl_r9 hp) ?_
          refine mw_iload_n 0 dX5_signalAt_26 rfl ?_
          refine mw_iaN i dX5_signalAt_27 (pl_a9 hp) (by omega) (by decide) rfl ?_
          refine mw_top (x' := (P 10 i)) (hP 10 i (by decide)) ?_
          refine mw_iload_n 3 dX5_signalAt_28 rfl ?_
          refine mw_icmp_ne (tgt := 34) dX5_signalAt_29 (by decide) (fun c29 => ?_) (fun c29 => ?_)
          · refine mw_iinc 0 (nI (i + 1)) [(3, .int (nI (i + 1))), (0, .ref p), (1, .int s), (2, .int w)] dX5_signalAt_34 rfl (nI_1 _) (Nat.le_of_ble_eq_true rfl) rfl ?_
            refine mw_goto (tgt := 2) dX5_signalAt_37 (by decide) ?_
            refine ih2 _ ?_ ?_ ?_
            · first | omega | (rw [ha, ff_step (by omega)]; simp_all; done)
            · first | omega | (rw [ha, ff_step (by omega)]; simp_all; done)
            · omega
          · refine mw_iload_n 0 dX5_signalAt_32 rfl ?_
            refine mw_ireturn dX5_signalAt_33 rfl rfl ⟨rfl, rfl⟩ ?_
            exact ⟨by rw [ha, ff_step (by omega)]; simp_all, rfl⟩
  refine L2 _ 0 ?_ ?_ (Nat.lt_succ_self _)
  · first | omega | rfl | assumption | (simp_all [bo]; done)
  · rfl
set_option maxRecDepth 100000 in
set_option maxHeartbeats 4000000 in
theorem c_X5_routesNeeding (d : Nat) (h : m_H) (p : Nat) (P : m_V) (hp : isPlan h.2.2 p) (hP : blI h p 21 P) (hN : okP P) (q l : Int32) : MC yX5_routesNeeding cX5_routesNeeding 6 (some .int) (d + 1) 0 0 [.ref p, .int q, .int l] h (m_r (.int (p_routesNeeding P q l)) h) := by
  obtain ⟨e4, g4⟩ := hN.2.2.2.2.1
  refine mc_of (by decide +kernel) (Nat.le_of_ble_eq_true rfl) ?_
  show MW (yX5_routesNeeding.cls, cX5_routesNeeding, 6, (some .int), yX5_routesNeeding.name, d + 1, 0, 0) 0 (0, 0) [(0, .ref p), (1, .int q), (2, .int l)] [] h _
  refine mw_iconst (v := 0) dX5_routesNeeding_0 rfl ?_
  refine mw_istore_n [(3, .int 0), (0, .ref p), (1, .int q), (2, .int l)] dX5_routesNeeding_1 (Nat.le_of_ble_eq_true rfl) rfl ?_
  refine mw_iconst (v := 0) dX5_routesNeeding_2 rfl ?_
  refine mw_istore [(4, .int 0), (3, .int 0), (0, .ref p), (1, .int q), (2, .int l)] dX5_routesNeeding_3 (Nat.le_of_ble_eq_true rfl) rfl ?_
  have L5 : ∀ (m5 : Nat) (i : Nat) (acc : Int32), (i ≤ ct P 4) → (acc = lo (fun r a => a ||| ((((if l = 0 then P 15 r else P 16 r) >>> (q &&& 31)) &&& 1) <<< (nI r &&& 31))) i 0) → ct P 4 - i < m5 → MW (yX5_routesNeeding.cls, cX5_routesNeeding, 6, (some .int), yX5_routesNeeding.name, d + 1, 0, 0) 5 (0, 0) [(4, .int (nI i)), (3, .int acc), (0, .ref p), (1, .int q), (2, .int l)] [] h (m_r (.int (p_routesNeeding P q l)) h) := by
    intro m5
    induction m5 with
    | zero => intro i acc _ _ hm5; exact absurd hm5 (Nat.not_lt_zero _)
    | succ m5 ih5 =>
      intro i acc hi ha hm5
      refine mw_iload 0 dX5_routesNeeding_5 rfl ?_
      refine mw_aload_n 2 dX5_routesNeeding_7 rfl ?_
      refine mw_getr 5 0 dX5_routesNeeding_8 fl_X5_9 (by decide) (by decide) rfl (pl_o hp) (pl_r0 hp) ?_
      refine mw_iconst (v := 4) dX5_routesNeeding_11 rfl ?_
      refine mw_iaN 4 dX5_routesNeeding_12 (pl_a0 hp) (by decide) (by decide) (by decide) ?_
      refine mw_top (x' := (nI (ct P 4))) ((hP 1 4 (by decide)).trans e4) ?_
      refine mw_icmp_ge (tgt := 57) dX5_routesNeeding_13 (by decide) (fun c => ?_) (fun c => ?_)
      · have c := (nI_leI (by omega) (by omega)).mp c
        refine mw_iload_n 1 dX5_routesNeeding_57 rfl ?_
        refine mw_ireturn dX5_routesNeeding_58 rfl rfl ⟨rfl, rfl⟩ ?_
        exact ⟨by rw [ha, show i = ct P 4 by omega]; rfl, rfl⟩
      · have c := mt (nI_leI (by omega) (by omega)).mpr c
        refine mw_iload_n 4 dX5_routesNeeding_16 rfl ?_
        refine mw_if_ne (tgt := 30) dX5_routesNeeding_17 (by decide) (fun c17 => ?_) (fun c17 => ?_)
        · refine mw_aload_n 2 dX5_routesNeeding_30 rfl ?_
          refine mw_getr 5 15 dX5_routesNeeding_31 fl_X5_58 (by decide) (by decide) rfl (pl_o hp) (pl_r15 hp) ?_
          refine mw_iload 0 dX5_routesNeeding_34 rfl ?_
          refine mw_iaN i dX5_routesNeeding_36 (pl_a15 hp) (by omega) (by decide) rfl ?_
          refine mw_top (x' := (P 16 i)) (hP 16 i (by decide)) ?_
          refine mw_istore [(5, .int (P 16 i)), (4, .int (nI i)), (3, .int acc), (0, .ref p), (1, .int q), (2, .int l)] dX5_routesNeeding_37 (Nat.le_of_ble_eq_true rfl) rfl ?_
          refine mw_iload_n 2 dX5_routesNeeding_39 rfl ?_
          refine mw_iload 0 dX5_routesNeeding_40 rfl ?_
          refine mw_iload_n 4 dX5_routesNeeding_42 rfl ?_
          refine mw_ishr dX5_routesNeeding_43 ?_
          refine mw_iconst (v := 1) dX5_routesNeeding_44 rfl ?_
          refine mw_iand dX5_routesNeeding_45 ?_
          refine mw_iload 1 dX5_routesNeeding_46 rfl ?_
          refine mw_ishl dX5_routesNeeding_48 ?_
          refine mw_ior dX5_routesNeeding_49 ?_
          refine mw_istore_n [(3, .int (acc ||| ((((P 16 i) >>> (q &&& 31)) &&& 1) <<< ((nI i) &&& 31)))), (5, .int (P 16 i)), (4, .int (nI i)), (0, .ref p), (1, .int q), (2, .int l)] dX5_routesNeeding_50 (Nat.le_of_ble_eq_true rfl) rfl ?_
          refine mw_iinc 2 (nI (i + 1)) [(4, .int (nI (i + 1))), (3, .int (acc ||| ((((P 16 i) >>> (q &&& 31)) &&& 1) <<< ((nI i) &&& 31)))), (5, .int (P 16 i)), (0, .ref p), (1, .int q), (2, .int l)] dX5_routesNeeding_51 rfl (nI_1 _) (Nat.le_of_ble_eq_true rfl) rfl ?_
          refine mw_goto (tgt := 5) dX5_routesNeeding_54 (by decide) ?_
          refine mw_sub [0, 1, 3, 4, 5] rfl ?_
          refine ih5 _ _ ?_ ?_ ?_
          · first | omega | (simp_all [lo]; done)
          · first | omega | (simp_all [lo]; done)
          · omega
        · refine mw_aload_n 2 dX5_routesNeeding_20 rfl ?_
          refine mw_getr 5 14 dX5_routesNeeding_21 fl_X5_55 (by decide) (by decide) rfl (pl_o hp) (pl_r14 hp) ?_
          refine mw_iload 0 dX5_routesNeeding_24 rfl ?_
          refine mw_iaN i dX5_routesNeeding_26 (pl_a14 hp) (by omega) (by decide) rfl ?_
          refine mw_top (x' := (P 15 i)) (hP 15 i (by decide)) ?_
          refine mw_goto (tgt := 37) dX5_routesNeeding_27 (by decide) ?_
          refine mw_istore [(5, .int (P 15 i)), (4, .int (nI i)), (3, .int acc), (0, .ref p), (1, .int q), (2, .int l)] dX5_routesNeeding_37 (Nat.le_of_ble_eq_true rfl) rfl ?_
          refine mw_iload_n 2 dX5_routesNeeding_39 rfl ?_
          refine mw_iload 0 dX5_routesNeeding_40 rfl ?_
          refine mw_iload_n 4 dX5_routesNeeding_42 rfl ?_
          refine mw_ishr dX5_routesNeeding_43 ?_
          refine mw_iconst (v := 1) dX5_routesNeeding_44 rfl ?_
          refine mw_iand dX5_routesNeeding_45 ?_
          refine mw_iload 1 dX5_routesNeeding_46 rfl ?_
          refine mw_ishl dX5_routesNeeding_48 ?_
          refine mw_ior dX5_routesNeeding_49 ?_
          refine mw_istore_n [(3, .int (acc ||| ((((P 15 i) >>> (q &&& 31)) &&& 1) <<< ((nI i) &&& 31)))), (5, .int (P 15 i)), (4, .int (nI i)), (0, .ref p), (1, .int q), (2, .int l)] dX5_routesNeeding_50 (Nat.le_of_ble_eq_true rfl) rfl ?_
          refine mw_iinc 2 (nI (i + 1)) [(4, .int (nI (i + 1))), (3, .int (acc ||| ((((P 15 i) >>> (q &&& 31)) &&& 1) <<< ((nI i) &&& 31)))), (5, .int (P 15 i)), (0, .ref p), (1, .int q), (2, .int l)] dX5_routesNeeding_51 rfl (nI_1 _) (Nat.le_of_ble_eq_true rfl) rfl ?_
          refine mw_goto (tgt := 5) dX5_routesNeeding_54 (by decide) ?_
          refine mw_sub [0, 1, 3, 4, 5] rfl ?_
          refine ih5 _ _ ?_ ?_ ?_
          · first | omega | (simp_all [lo]; done)
          · first | omega | (simp_all [lo]; done)
          · omega
  refine L5 _ 0 0 ?_ ?_ (Nat.lt_succ_self _)
  · first | omega | rfl | assumption | (simp_all [bo]; done)
  · first | omega | rfl | assumption | (simp_all [bo]; done)
set_option maxRecDepth 100000 in
set_option maxHeartbeats 4000000 in
theorem c_X5_conflict (d : Nat) (h : m_H) (p : Nat) (P : m_V) (hp : isPlan h.2.2 p) (hP : blI h p 21 P) (hN : okP P) (r q : Nat) (hr : r < 10) (hq : q < 10) : MC yX5_conflict cX5_conflict 3 (some .boolean) (d + 1) 0 0 [.ref p, .int (nI r), .int (nI q)] h (m_r (.int (b2 (p_conflict P r q))) h) := by
  refine mc_of (by decide +kernel) (Nat.le_of_ble_eq_true rfl) ?_
  show MW (yX5_conflict.cls, cX5_conflict, 3, (some .boolean), yX5_conflict.name, d + 1, 0, 0) 0 (0, 0) [(0, .ref p), (1, .int (nI r)), (2, .int (nI q))] [] h _
  refine mw_aload_n 0 dX5_conflict_0 rfl ?_
  refine mw_getr 5 10 dX5_conflict_1 fl_X5_43 (by decide) (by decide) rfl (pl_o hp) (pl_r10 hp) ?_
  refine mw_iload_n 1 dX5_conflict_4 rfl ?_
  refine mw_iaN r dX5_conflict_5 (pl_a10 hp) (by omega) (by decide) rfl ?_
  refine mw_top (x' := (P 11 r)) (hP 11 r (by decide)) ?_
  refine mw_aload_n 0 dX5_conflict_6 rfl ?_
  refine mw_getr 5 10 dX5_conflict_7 fl_X5_43 (by decide) (by decide) rfl (pl_o hp) (pl_r10 hp) ?_
  refine mw_iload_n 2 dX5_conflict_10 rfl ?_
  refine mw_iaN q dX5_conflict_11 (pl_a10 hp) (by omega) (by decide) rfl ?_
  refine mw_top (x' := (P 11 q)) (hP 11 q (by decide)) ?_
  refine mw_icmp_eq (tgt := 63) dX5_conflict_12 (by decide) (fun c12 => ?_) (fun c12 => ?_)
  · refine mw_iconst (v := 1) dX5_conflict_63 rfl ?_
    refine mw_goto (tgt := 68) dX5_conflict_64 (by decide) ?_
    refine mw_ireturn dX5_conflict_68 rfl rfl ⟨rfl, rfl⟩ ?_
    exact ⟨by simp_all [p_conflict, b2], rfl⟩
  · refine mw_aload_n 0 dX5_conflict_15 rfl ?_
    refine mw_getr 5 13 dX5_conflict_16 fl_X5_52 (by decide) (by decide) rfl (pl_o hp) (pl_r13 hp) ?_
    refine mw_iload_n 1 dX5_conflict_19 rfl ?_
    refine mw_iaN r dX5_conflict_20 (pl_a13 hp) (by omega) (by decide) rfl ?_
    refine mw_top (x' := (P 14 r)) (hP 14 r (by decide)) ?_
    refine mw_aload_n 0 dX5_conflict_21 rfl ?_
    refine mw_getr 5 13 dX5_conflict_22 fl_X5_52 (by decide) (by decide) rfl (pl_o hp) (pl_r13 hp) ?_
    refine mw_iload_n 2 dX5_conflict_25 rfl ?_
    refine mw_iaN q dX5_conflict_26 (pl_a13 hp) (by omega) (by decide) rfl ?_
    refine mw_top (x' := (P 14 q)) (hP 14 q (by decide)) ?_
    refine mw_iand dX5_conflict_27 ?_
    refine mw_if_ne (tgt := 63) dX5_conflict_28 (by decide) (fun c28 => ?_) (fun c28 => ?_)
    · refine mw_iconst (v := 1) dX5_conflict_63 rfl ?_
      refine mw_goto (tgt := 68) dX5_conflict_64 (by decide) ?_
      refine mw_ireturn dX5_conflict_68 rfl rfl ⟨rfl, rfl⟩ ?_
      exact ⟨by simp_all [p_conflict, b2], rfl⟩
    · refine mw_aload_n 0 dX5_conflict_31 rfl ?_
      refine mw_getr 5 14 dX5_conflict_32 fl_X5_55 (by decide) (by decide) rfl (pl_o hp) (pl_r14 hp) ?_
      refine mw_iload_n 1 dX5_conflict_35 rfl ?_
      refine mw_iaN r dX5_conflict_36 (pl_a14 hp) (by omega) (by decide) rfl ?_
      refine mw_top (x' := (P 15 r)) (hP 15 r (by decide)) ?_
      refine mw_aload_n 0 dX5_conflict_37 rfl ?_
      refine mw_getr 5 15 dX5_conflict_38 fl_X5_58 (by decide) (by decide) rfl (pl_o hp) (pl_r15 hp) ?_
      refine mw_iload_n 2 dX5_conflict_41 rfl ?_
      refine mw_iaN q dX5_conflict_42 (pl_a15 hp) (by omega) (by decide) rfl ?_
      refine mw_top (x' := (P 16 q)) (hP 16 q (by decide)) ?_
      refine mw_iand dX5_conflict_43 ?_
      refine mw_if_ne (tgt := 63) dX5_conflict_44 (by decide) (fun c44 => ?_) (fun c44 => ?_)
      · refine mw_iconst (v := 1) dX5_conflict_63 rfl ?_
        refine mw_goto (tgt := 68) dX5_conflict_64 (by decide) ?_
        refine mw_ireturn dX5_conflict_68 rfl rfl ⟨rfl, rfl⟩ ?_
        exact ⟨by simp_all [p_conflict, b2], rfl⟩
      · refine mw_aload_n 0 dX5_conflict_47 rfl ?_
        refine mw_getr 5 15 dX5_conflict_48 fl_X5_58 (by decide) (by decide) rfl (pl_o hp) (pl_r15 hp) ?_
        refine mw_iload_n 1 dX5_conflict_51 rfl ?_
        refine mw_iaN r dX5_conflict_52 (pl_a15 hp) (by omega) (by decide) rfl ?_
        refine mw_top (x' := (P 16 r)) (hP 16 r (by decide)) ?_
        refine mw_aload_n 0 dX5_conflict_53 rfl ?_
        refine mw_getr 5 14 dX5_conflict_54 fl_X5_55 (by decide) (by decide) rfl (pl_o hp) (pl_r14 hp) ?_
        refine mw_iload_n 2 dX5_conflict_57 rfl ?_
        refine mw_iaN q dX5_conflict_58 (pl_a14 hp) (by omega) (by decide) rfl ?_
        refine mw_top (x' := (P 15 q)) (hP 15 q (by decide)) ?_
        refine mw_iand dX5_conflict_59 ?_
        refine mw_if_eq (tgt := 67) dX5_conflict_60 (by decide) (fun c60 => ?_) (fun c60 => ?_)
        · refine mw_iconst (v := 0) dX5_conflict_67 rfl ?_
          refine mw_ireturn dX5_conflict_68 rfl rfl ⟨rfl, rfl⟩ ?_
          exact ⟨by simp_all [p_conflict, b2], rfl⟩
        · refine mw_iconst (v := 1) dX5_conflict_63 rfl ?_
          refine mw_goto (tgt := 68) dX5_conflict_64 (by decide) ?_
          refine mw_ireturn dX5_conflict_68 rfl rfl ⟨rfl, rfl⟩ ?_
          exact ⟨by simp_all [p_conflict, b2], rfl⟩
set_option maxRecDepth 100000 in
set_option maxHeartbeats 4000000 in
theorem c_X5_sectionOf (d : Nat) (h : m_H) (p : Nat) (P : m_V) (hp : isPlan h.2.2 p) (hP : blI h p 21 P) (hN : okP P) (r k : Nat) (hr : r < 10) (hk : k < 6) : MC yX5_sectionOf cX5_sectionOf 3 (some .int) (d + 1) 0 0 [.ref p, .int (nI r), .int (nI k)] h (m_r (.int (P 13 (r * 6 + k))) h) := by
  refine mc_of (by decide +kernel) (Nat.le_of_ble_eq_true rfl) ?_
  show MW (yX5_sectionOf.cls, cX5_sectionOf, 3, (some .int), yX5_sectionOf.name, d + 1, 0, 0) 0 (0, 0) [(0, .ref p), (1, .int (nI r)), (2, .int (nI k))] [] h _
  refine mw_aload_n 0 dX5_sectionOf_0 rfl ?_
  refine mw_getr 5 12 dX5_sectionOf_1 fl_X5_49 (by decide) (by decide) rfl (pl_o hp) (pl_r12 hp) ?_
  refine mw_iload_n 1 dX5_sectionOf_4 rfl ?_
  refine mw_bipush (v := 6) dX5_sectionOf_5 (by decide) ?_
  refine mw_imul dX5_sectionOf_7 ?_
  refine mw_iload_n 2 dX5_sectionOf_8 rfl ?_
  refine mw_iadd dX5_sectionOf_9 ?_
  refine mw_iaN (r * 6 + k) dX5_sectionOf_10 (pl_a12 hp) (by omega) (by decide) (by rw [nI_lit 6, pk_mul, nI_add]) ?_
  refine mw_top (x' := (P 13 (r * 6 + k))) (hP 13 (r * 6 + k) (by decide)) ?_
  refine mw_ireturn dX5_sectionOf_11 rfl rfl ⟨rfl, rfl⟩ ?_
  exact ⟨rfl, rfl⟩
set_option maxRecDepth 100000 in
set_option maxHeartbeats 4000000 in
theorem c_X5_endOf (d : Nat) (h : m_H) (p : Nat) (P : m_V) (hp : isPlan h.2.2 p) (hP : blI h p 21 P) (hN : okP P) (r k g : Nat) (hr : r < 10) (hk : P 12 r = nI k) (hk6 : k ≤ 6) (hg : P 11 r = nI g) (hg8 : g < 8) : MC yX5_endOf cX5_endOf 3 (some .int) (d + 2) 0 0 [.ref p, .int (nI r)] h (m_r (.int (p_endOf P r)) h) := by
  refine mc_of (by decide +kernel) (Nat.le_of_ble_eq_true rfl) ?_
  show MW (yX5_endOf.cls, cX5_endOf, 3, (some .int), yX5_endOf.name, d + 2, 0, 0) 0 (0, 0) [(0, .ref p), (1, .int (nI r))] [] h _
  refine mw_aload_n 0 dX5_endOf_0 rfl ?_
  refine mw_getr 5 11 dX5_endOf_1 fl_X5_46 (by decide) (by decide) rfl (pl_o hp) (pl_r11 hp) ?_
  refine mw_iload_n 1 dX5_endOf_4 rfl ?_
  refine mw_iaN r dX5_endOf_5 (pl_a11 hp) (by omega) (by decide) rfl ?_
  refine mw_top (x' := (P 12 r)) (hP 12 r (by decide)) ?_
  refine mw_top (x' := (nI k)) hk ?_
  refine mw_istore_n [(2, .int (nI k)), (0, .ref p), (1, .int (nI r))] dX5_endOf_6 (Nat.le_of_ble_eq_true rfl) rfl ?_
  refine mw_iload_n 0 dX5_endOf_7 rfl ?_
  refine mw_if_ne (tgt := 25) dX5_endOf_8 (by decide) (fun c8 => ?_) (fun c8 => ?_)
  · have c8 : 0 < k := Nat.pos_of_ne_zero (fun e => c8 (by rw [e]; rfl))
    refine mw_aload_n 1 dX5_endOf_25 rfl ?_
    refine mw_iload_n 2 dX5_endOf_26 rfl ?_
    refine mw_iload_n 0 dX5_endOf_27 rfl ?_
    refine mw_iconst (v := 1) dX5_endOf_28 rfl ?_
    refine mw_isub dX5_endOf_29 ?_
    refine mw_top (x' := (nI (k - 1))) (by rw [nI_lit 1, pk_sub (by omega)]) ?_
    refine mw_cV [.int (nI r), .int (nI (k - 1))] (c_X5_sectionOf d h p P hp hP hN r (k - 1) hr (by omega)) mY_X5_sectionOf dX5_endOf_30 ml_X5_93 (pl_o hp) rfl rfl (by decide) ⟨Nat.le_refl _, Nat.le_refl _⟩ rfl ?_
    refine mw_ireturn dX5_endOf_33 rfl rfl ⟨rfl, rfl⟩ ?_
    first | exact ⟨by subst c8; simp [p_endOf, hk, hg, nI_0, nI_clamp (show g < 2 ^ 31 by omega)], rfl⟩ | exact ⟨by have e : ¬ nI k = 0 := nI_ne0 c8 (by omega); simp [p_endOf, hk, e, nI_clamp (show k < 2 ^ 31 by omega)], rfl⟩
  · have c8 : k = 0 := (nI_eq (by omega) (by omega)).mp c8
    refine mw_aload_n 1 dX5_endOf_11 rfl ?_
    refine mw_getr 5 8 dX5_endOf_12 fl_X5_37 (by decide) (by decide) rfl (pl_o hp) (pl_r8 hp) ?_
    refine mw_aload_n 1 dX5_endOf_15 rfl ?_
    refine mw_getr 5 10 dX5_endOf_16 fl_X5_43 (by decide) (by decide) rfl (pl_o hp) (pl_r10 hp) ?_
    refine mw_iload_n 2 dX5_endOf_19 rfl ?_
    refine mw_iaN r dX5_endOf_20 (pl_a10 hp) (by omega) (by decide) rfl ?_
    refine mw_top (x' := (P 11 r)) (hP 11 r (by decide)) ?_
    refine mw_iaN g dX5_endOf_21 (pl_a8 hp) (by omega) (by decide) hg ?_
    refine mw_top (x' := (P 9 g)) (hP 9 g (by decide)) ?_
    refine mw_goto (tgt := 33) dX5_endOf_22 (by decide) ?_
    refine mw_ireturn dX5_endOf_33 rfl rfl ⟨rfl, rfl⟩ ?_
    first | exact ⟨by subst c8; simp [p_endOf, hk, hg, nI_0, nI_clamp (show g < 2 ^ 31 by omega)], rfl⟩ | exact ⟨by have e : ¬ nI k = 0 := nI_ne0 c8 (by omega); simp [p_endOf, hk, e, nI_clamp (show k < 2 ^ 31 by omega)], rfl⟩
set_option maxRecDepth 100000 in
set_option maxHeartbeats 4000000 in
theorem c_X5_leadsTo (d : Nat) (h : m_H) (p : Nat) (P : m_V) (hp : isPlan h.2.2 p) (hP : blI h p 21 P) (hN : okP P) (k : Nat) (f w : Int32) (hk : k < 16) : MC yX5_leadsTo cX5_leadsTo 6 (some .int) (d + 1) 0 0 [.ref p, .int (nI k), .int f, .int w] h (m_r (.int (p_leadsTo P k f w)) h) := by
  refine mc_of (by decide +kernel) (Nat.le_of_ble_eq_true rfl) ?_
  show MW (yX5_leadsTo.cls, cX5_leadsTo, 6, (some .int), yX5_leadsTo.name, d + 1, 0, 0) 0 (0, 0) [(0, .ref p), (1, .int (nI k)), (2, .int f), (3, .int w)] [] h _
  refine mw_iload_n 3 dX5_leadsTo_0 rfl ?_
  refine mw_if_ne (tgt := 13) dX5_leadsTo_1 (by decide) (fun c1 => ?_) (fun c1 => ?_)
  · refine mw_aload_n 0 dX5_leadsTo_13 rfl ?_
    refine mw_getr 5 5 dX5_leadsTo_14 fl_X5_28 (by decide) (by decide) rfl (pl_o hp) (pl_r5 hp) ?_
    refine mw_iload_n 1 dX5_leadsTo_17 rfl ?_
    refine mw_iaN k dX5_leadsTo_18 (pl_a5 hp) (by omega) (by decide) rfl ?_
    refine mw_top (x' := (P 6 k)) (hP 6 k (by decide)) ?_
    refine mw_istore [(4, .int (P 6 k)), (0, .ref p), (1, .int (nI k)), (2, .int f), (3, .int w)] dX5_leadsTo_19 (Nat.le_of_ble_eq_true rfl) rfl ?_
    refine mw_iload_n 4 dX5_leadsTo_21 rfl ?_
    refine mw_if_ne (tgt := 34) dX5_leadsTo_22 (by decide) (fun c22 => ?_) (fun c22 => ?_)
    · refine mw_aload_n 1 dX5_leadsTo_34 rfl ?_
      refine mw_getr 5 4 dX5_leadsTo_35 fl_X5_25 (by decide) (by decide) rfl (pl_o hp) (pl_r4 hp) ?_
      refine mw_iload_n 2 dX5_leadsTo_38 rfl ?_
      refine mw_iaN k dX5_leadsTo_39 (pl_a4 hp) (by omega) (by decide) rfl ?_
      refine mw_top (x' := (P 5 k)) (hP 5 k (by decide)) ?_
      refine mw_istore [(5, .int (P 5 k)), (4, .int (P 6 k)), (0, .ref p), (1, .int (nI k)), (2, .int f), (3, .int w)] dX5_leadsTo_40 (Nat.le_of_ble_eq_true rfl) rfl ?_
      refine mw_iload 1 dX5_leadsTo_42 rfl ?_
      refine mw_iload_n 4 dX5_leadsTo_44 rfl ?_
      refine mw_icmp_ne (tgt := 53) dX5_leadsTo_45 (by decide) (fun c45 => ?_) (fun c45 => ?_)
      · refine mw_iconst (v := -1) dX5_leadsTo_53 rfl ?_
        refine mw_ireturn dX5_leadsTo_54 rfl rfl ⟨rfl, rfl⟩ ?_
        exact ⟨by simp_all [p_leadsTo], rfl⟩
      · refine mw_iload 0 dX5_leadsTo_48 rfl ?_
        refine mw_goto (tgt := 54) dX5_leadsTo_50 (by decide) ?_
        refine mw_ireturn dX5_leadsTo_54 rfl rfl ⟨rfl, rfl⟩ ?_
        exact ⟨by simp_all [p_leadsTo], rfl⟩
    · refine mw_aload_n 1 dX5_leadsTo_25 rfl ?_
      refine mw_getr 5 5 dX5_leadsTo_26 fl_X5_28 (by decide) (by decide) rfl (pl_o hp) (pl_r5 hp) ?_
      refine mw_iload_n 2 dX5_leadsTo_29 rfl ?_
      refine mw_iaN k dX5_leadsTo_30 (pl_a5 hp) (by omega) (by decide) rfl ?_
      refine mw_top (x' := (P 6 k)) (hP 6 k (by decide)) ?_
      refine mw_goto (tgt := 40) dX5_leadsTo_31 (by decide) ?_
      refine mw_istore [(5, .int (P 6 k)), (4, .int (P 6 k)), (0, .ref p), (1, .int (nI k)), (2, .int f), (3, .int w)] dX5_leadsTo_40 (Nat.le_of_ble_eq_true rfl) rfl ?_
      refine mw_iload 1 dX5_leadsTo_42 rfl ?_
      refine mw_iload_n 4 dX5_leadsTo_44 rfl ?_
      refine mw_icmp_ne (tgt := 53) dX5_leadsTo_45 (by decide) (fun c45 => ?_) (fun c45 => ?_)
      · refine mw_iconst (v := -1) dX5_leadsTo_53 rfl ?_
        refine mw_ireturn dX5_leadsTo_54 rfl rfl ⟨rfl, rfl⟩ ?_
        exact ⟨by simp_all [p_leadsTo], rfl⟩
      · refine mw_iload 0 dX5_leadsTo_48 rfl ?_
        refine mw_goto (tgt := 54) dX5_leadsTo_50 (by decide) ?_
        refine mw_ireturn dX5_leadsTo_54 rfl rfl ⟨rfl, rfl⟩ ?_
        exact ⟨by simp_all [p_leadsTo], rfl⟩
  · refine mw_aload_n 0 dX5_leadsTo_4 rfl ?_
    refine mw_getr 5 4 dX5_leadsTo_5 fl_X5_25 (by decide) (by decide) rfl (pl_o hp) (pl_r4 hp) ?_
    refine mw_iload_n 1 dX5_leadsTo_8 rfl ?_
    refine mw_iaN k dX5_leadsTo_9 (pl_a4 hp) (by omega) (by decide) rfl ?_
    refine mw_top (x' := (P 5 k)) (hP 5 k (by decide)) ?_
    refine mw_goto (tgt := 19) dX5_leadsTo_10 (by decide) ?_
    refine mw_istore [(4, .int (P 5 k)), (0, .ref p), (1, .int (nI k)), (2, .int f), (3, .int w)] dX5_leadsTo_19 (Nat.le_of_ble_eq_true rfl) rfl ?_
    refine mw_iload_n 4 dX5_leadsTo_21 rfl ?_
    refine mw_if_ne (tgt := 34) dX5_leadsTo_22 (by decide) (fun c22 => ?_) (fun c22 => ?_)
    · refine mw_aload_n 1 dX5_leadsTo_34 rfl ?_
      refine mw_getr 5 4 dX5_leadsTo_35 fl_X5_25 (by decide) (by decide) rfl (pl_o hp) (pl_r4 hp) ?_
      refine mw_iload_n 2 dX5_leadsTo_38 rfl ?_
      refine mw_iaN k dX5_leadsTo_39 (pl_a4 hp) (by omega) (by decide) rfl ?_
      refine mw_top (x' := (P 5 k)) (hP 5 k (by decide)) ?_
      refine mw_istore [(5, .int (P 5 k)), (4, .int (P 5 k)), (0, .ref p), (1, .int (nI k)), (2, .int f), (3, .int w)] dX5_leadsTo_40 (Nat.le_of_ble_eq_true rfl) rfl ?_
      refine mw_iload 1 dX5_leadsTo_42 rfl ?_
      refine mw_iload_n 4 dX5_leadsTo_44 rfl ?_
      refine mw_icmp_ne (tgt := 53) dX5_leadsTo_45 (by decide) (fun c45 => ?_) (fun c45 => ?_)
      · refine mw_iconst (v := -1) dX5_leadsTo_53 rfl ?_
        refine mw_ireturn dX5_leadsTo_54 rfl rfl ⟨rfl, rfl⟩ ?_
        exact ⟨by simp_all [p_leadsTo], rfl⟩
      · refine mw_iload 0 dX5_leadsTo_48 rfl ?_
        refine mw_goto (tgt := 54) dX5_leadsTo_50 (by decide) ?_
        refine mw_ireturn dX5_leadsTo_54 rfl rfl ⟨rfl, rfl⟩ ?_
        exact ⟨by simp_all [p_leadsTo], rfl⟩
    · refine mw_aload_n 1 dX5_leadsTo_25 rfl ?_
      refine mw_getr 5 5 dX5_leadsTo_26 fl_X5_28 (by decide) (by decide) rfl (pl_o hp) (pl_r5 hp) ?_
      refine mw_iload_n 2 dX5_leadsTo_29 rfl ?_
      refine mw_iaN k dX5_leadsTo_30 (pl_a5 hp) (by omega) (by decide) rfl ?_
      refine mw_top (x' := (P 6 k)) (hP 6 k (by decide)) ?_
      refine mw_goto (tgt := 40) dX5_leadsTo_31 (by decide) ?_
      refine mw_istore [(5, .int (P 6 k)), (4, .int (P 5 k)), (0, .ref p), (1, .int (nI k)), (2, .int f), (3, .int w)] dX5_leadsTo_40 (Nat.le_of_ble_eq_true rfl) rfl ?_
      refine mw_iload 1 dX5_leadsTo_42 rfl ?_
      refine mw_iload_n 4 dX5_leadsTo_44 rfl ?_
      refine mw_icmp_ne (tgt := 53) dX5_leadsTo_45 (by decide) (fun c45 => ?_) (fun c45 => ?_)
      · refine mw_iconst (v := -1) dX5_leadsTo_53 rfl ?_
        refine mw_ireturn dX5_leadsTo_54 rfl rfl ⟨rfl, rfl⟩ ?_
        exact ⟨by simp_all [p_leadsTo], rfl⟩
      · refine mw_iload 0 dX5_leadsTo_48 rfl ?_
        refine mw_goto (tgt := 54) dX5_leadsTo_50 (by decide) ?_
        refine mw_ireturn dX5_leadsTo_54 rfl rfl ⟨rfl, rfl⟩ ?_
        exact ⟨by simp_all [p_leadsTo], rfl⟩
theorem al_false {P : Nat → Bool} {i n : Nat} (hi : i < n) (h : P i = false) : al P n = false := by
  induction n with
  | zero => omega
  | succ n ih =>
    by_cases e : i = n
    · subst e; simp [al, h]
    · simp [al, ih (by omega)]
theorem an_true {P : Nat → Bool} {i n : Nat} (hi : i < n) (h : P i = true) : an P n = true := by
  induction n with
  | zero => omega
  | succ n ih =>
    by_cases e : i = n
    · subst e; simp [an, h]
    · simp [an, ih (by omega)]
set_option maxRecDepth 100000 in
set_option maxHeartbeats 4000000 in
theorem c_X5_isPeaceful (d : Nat) (h : m_H) (p : Nat) (P : m_V) (hp : isPlan h.2.2 p) (hP : blI h p 21 P) (hN : okP P) (s : Int32) : MC yX5_isPeaceful cX5_isPeaceful 3 (some .boolean) (d + 1) 0 0 [.ref p, .int s] h (m_r (.int (b2 (p_isPeaceful P s))) h) := by
  obtain ⟨e4, g4⟩ := hN.2.2.2.2.1
  refine mc_of (by decide +kernel) (Nat.le_of_ble_eq_true rfl) ?_
  show MW (yX5_isPeaceful.cls, cX5_isPeaceful, 3, (some .boolean), yX5_isPeaceful.name, d + 1, 0, 0) 0 (0, 0) [(0, .ref p), (1, .int s)] [] h _
  refine mw_iconst (v := 0) dX5_isPeaceful_0 rfl ?_
  refine mw_istore_n [(2, .int 0), (0, .ref p), (1, .int s)] dX5_isPeaceful_1 (Nat.le_of_ble_eq_true rfl) rfl ?_
  have L2 : ∀ (m2 : Nat) (i : Nat), (i ≤ ct P 4) → (al (fun r => decide (¬ ((s >>> (nI r &&& 31)) &&& 1 = 1 ∧ ¬ P 18 r &&& s = 0))) i = true) → ct P 4 - i < m2 → MW (yX5_isPeaceful.cls, cX5_isPeaceful, 3, (some .boolean), yX5_isPeaceful.name, d + 1, 0, 0) 2 (0, 0) [(2, .int (nI i)), (0, .ref p), (1, .int s)] [] h (m_r (.int (b2 (p_isPeaceful P s))) h) := by
    intro m2
    induction m2 with
    | zero => intro i _ _ hm2; exact absurd hm2 (Nat.not_lt_zero _)
    | succ m2 ih2 =>
      intro i hi ha hm2
      refine mw_iload_n 0 dX5_isPeaceful_2 rfl ?_
      refine mw_aload_n 1 dX5_isPeaceful_3 rfl ?_
      refine mw_getr 5 0 dX5_isPeaceful_4 fl_X5_9 (by decide) (by decide) rfl (pl_o hp) (pl_r0 hp) ?_
      refine mw_iconst (v := 4) dX5_isPeaceful_7 rfl ?_
      refine mw_iaN 4 dX5_isPeaceful_8 (pl_a0 hp) (by decide) (by decide) (by decide) ?_
      refine mw_top (x' := (nI (ct P 4))) ((hP 1 4 (by decide)).trans e4) ?_
      refine mw_icmp_ge (tgt := 40) dX5_isPeaceful_9 (by decide) (fun c => ?_) (fun c => ?_)
      · have c := (nI_leI (by omega) (by omega)).mp c
        refine mw_iconst (v := 1) dX5_isPeaceful_40 rfl ?_
        refine mw_ireturn dX5_isPeaceful_41 rfl rfl ⟨rfl, rfl⟩ ?_
        exact ⟨by rw [p_isPeaceful, show ct P 4 = i by omega, ha]; rfl, rfl⟩
      · have c := mt (nI_leI (by omega) (by omega)).mpr c
        refine mw_iload_n 2 dX5_isPeaceful_12 rfl ?_
        refine mw_iload_n 0 dX5_isPeaceful_13 rfl ?_
        refine mw_ishr dX5_isPeaceful_14 ?_
        refine mw_iconst (v := 1) dX5_isPeaceful_15 rfl ?_
        refine mw_iand dX5_isPeaceful_16 ?_
        refine mw_iconst (v := 1) dX5_isPeaceful_17 rfl ?_
        refine mw_icmp_ne (tgt := 34) dX5_isPeaceful_18 (by decide) (fun c18 => ?_) (fun c18 => ?_)
        · refine mw_iinc 0 (nI (i + 1)) [(2, .int (nI (i + 1))), (0, .ref p), (1, .int s)] dX5_isPeaceful_34 rfl (nI_1 _) (Nat.le_of_ble_eq_true rfl) rfl ?_
          refine mw_goto (tgt := 2) dX5_isPeaceful_37 (by decide) ?_
          refine ih2 _ ?_ ?_ ?_
          · first | omega | (simp_all [al]; done)
          · first | omega | (simp_all [al]; done)
          · omega
        · refine mw_aload_n 1 dX5_isPeaceful_21 rfl ?_
          refine mw_getr 5 17 dX5_isPeaceful_22 fl_X5_64 (by decide) (by decide) rfl (pl_o hp) (pl_r17 hp) ?_
          refine mw_iload_n 0 dX5_isPeaceful_25 rfl ?_
          refine mw_iaN i dX5_isPeaceful_26 (pl_a17 hp) (by omega) (by decide) rfl ?_
          refine mw_top (x' := (P 18 i)) (hP 18 i (by decide)) ?_
          refine mw_iload_n 2 dX5_isPeaceful_27 rfl ?_
          refine mw_iand dX5_isPeaceful_28 ?_
          refine mw_if_eq (tgt := 34) dX5_isPeaceful_29 (by decide) (fun c29 => ?_) (fun c29 => ?_)
          · refine mw_iinc 0 (nI (i + 1)) [(2, .int (nI (i + 1))), (0, .ref p), (1, .int s)] dX5_isPeaceful_34 rfl (nI_1 _) (Nat.le_of_ble_eq_true rfl) rfl ?_
            refine mw_goto (tgt := 2) dX5_isPeaceful_37 (by decide) ?_
            refine ih2 _ ?_ ?_ ?_
            · first | omega | (simp_all [al]; done)
            · first | omega | (simp_all [al]; done)
            · omega
          · refine mw_iconst (v := 0) dX5_isPeaceful_32 rfl ?_
            refine mw_ireturn dX5_isPeaceful_33 rfl rfl ⟨rfl, rfl⟩ ?_
            exact ⟨by rw [p_isPeaceful, al_false (i := i) (by omega) (by simp_all)]; rfl, rfl⟩
  refine L2 _ 0 ?_ ?_ (Nat.lt_succ_self _)
  · first | omega | rfl | assumption | (simp_all [bo]; done)
  · first | omega | rfl | assumption | (simp_all [bo]; done)
def p_find (P : m_V) (N : m_L) (s : Nat) (x : Int64) : Int32 := ff (fun i => decide (N 2 (s * 12 + i) = x)) 0 (ct P s)
theorem lg_ne {x y : Int64} : ¬ lg_cmp x y = 0 ↔ ¬ x = y := by
  unfold lg_cmp
  by_cases e : x = y
  · subst e; simp
  · by_cases l : y < x <;> simp [e, l]
set_option maxRecDepth 100000 in
set_option maxHeartbeats 4000000 in
theorem c_X5_find (d : Nat) (h : m_H) (p : Nat) (P : m_V) (N : m_L) (hp : isPlan h.2.2 p) (hP : blI h p 21 P) (hL : blJ h p 21 N) (s n : Nat) (x : Int64) (hs : s < 8) (hn : P 1 s = nI n) (hn12 : n ≤ 12) : MC yX5_find cX5_find 5 (some .int) (d + 1) 0 0 [.ref p, .int (nI s), .long x] h (m_r (.int (p_find P N s x)) h) := by
  have hct : ct P s = n := by unfold ct; rw [hn, nI_clamp (by omega)]
  refine mc_of (by decide +kernel) (Nat.le_of_ble_eq_true rfl) ?_
  show MW (yX5_find.cls, cX5_find, 5, (some .int), yX5_find.name, d + 1, 0, 0) 0 (0, 0) [(0, .ref p), (1, .int (nI s)), (2, .long x)] [] h _
  refine mw_iconst (v := 0) dX5_find_0 rfl ?_
  refine mw_istore [(4, .int 0), (0, .ref p), (1, .int (nI s)), (2, .long x)] dX5_find_1 (Nat.le_of_ble_eq_true rfl) rfl ?_
  have L3 : ∀ (m3 : Nat) (i : Nat), (i ≤ n) → (p_find P N s x = ff (fun i => decide (N 2 (s * 12 + i) = x)) i (n - i)) → n - i < m3 → MW (yX5_find.cls, cX5_find, 5, (some .int), yX5_find.name, d + 1, 0, 0) 3 (0, 0) [(4, .int (nI i)), (0, .ref p), (1, .int (nI s)), (2, .long x)] [] h (m_r (.int (p_find P N s x)) h) := by
    intro m3
    induction m3 with
    | zero => intro i _ _ hm3; exact absurd hm3 (Nat.not_lt_zero _)
    | succ m3 ih3 =>
      intro i hi ha hm3
      refine mw_iload 0 dX5_find_3 rfl ?_
      refine mw_aload_n 1 dX5_find_5 rfl ?_
      refine mw_getr 5 0 dX5_find_6 fl_X5_9 (by decide) (by decide) rfl (pl_o hp) (pl_r0 hp) ?_
      refine mw_iload_n 2 dX5_find_9 rfl ?_
      refine mw_iaN s dX5_find_10 (pl_a0 hp) (by omega) (by decide) rfl ?_
      refine mw_top (x' := (P 1 s)) (hP 1 s (by decide)) ?_
      refine mw_top (x' := (nI n)) hn ?_
      refine mw_icmp_ge (tgt := 47) dX5_find_11 (by decide) (fun c => ?_) (fun c => ?_)
      · have c := (nI_leI (by omega) (by omega)).mp c
        refine mw_iconst (v := -1) dX5_find_47 rfl ?_
        refine mw_ireturn dX5_find_48 rfl rfl ⟨rfl, rfl⟩ ?_
        exact ⟨by rw [ha, show n - i = 0 by omega]; rfl, rfl⟩
      · have c := mt (nI_leI (by omega) (by omega)).mpr c
        refine mw_iload 0 dX5_find_14 rfl ?_
        refine mw_bipush (v := 12) dX5_find_16 (by decide) ?_
        refine mw_icmp_ge (tgt := 47) dX5_find_18 (by decide) (fun c2 => ?_) (fun c2 => ?_)
        · exact absurd ((nI_leI (a := 12) (b := i) (by omega) (by omega)).mp c2) (by omega)
        · refine mw_aload_n 1 dX5_find_21 rfl ?_
          refine mw_getr 5 1 dX5_find_22 fl_X5_15 (by decide) (by decide) rfl (pl_o hp) (pl_r1 hp) ?_
          refine mw_iload_n 2 dX5_find_25 rfl ?_
          refine mw_bipush (v := 12) dX5_find_26 (by decide) ?_
          refine mw_imul dX5_find_28 ?_
          refine mw_iload 0 dX5_find_29 rfl ?_
          refine mw_iadd dX5_find_31 ?_
          refine mw_laN (s * 12 + i) dX5_find_32 (pl_a1 hp) (by omega) (by decide) (by rw [nI_lit 12, pk_mul, nI_add]) ?_
          refine mw_topl (x' := (N 2 (s * 12 + i))) (hL 2 (s * 12 + i) (by decide)) ?_
          refine mw_lload_n 3 dX5_find_33 rfl ?_
          refine mw_lcmp dX5_find_34 ?_
          refine mw_if_ne (tgt := 41) dX5_find_35 (by decide) (fun c35 => ?_) (fun c35 => ?_)
          · have c35 := lg_ne.mp c35
            refine mw_iinc 0 (nI (i + 1)) [(4, .int (nI (i + 1))), (0, .ref p), (1, .int (nI s)), (2, .long x)] dX5_find_41 rfl (nI_1 _) (Nat.le_of_ble_eq_true rfl) rfl ?_
            refine mw_goto (tgt := 3) dX5_find_44 (by decide) ?_
            refine ih3 _ ?_ ?_ ?_
            · first | omega | (rw [ha, ff_step (by omega)]; simp_all; done)
            · first | omega | (rw [ha, ff_step (by omega)]; simp_all; done)
            · omega
          · have c35 := Classical.byContradiction (fun e => lg_ne.mpr e c35)
            refine mw_iload 0 dX5_find_38 rfl ?_
            refine mw_ireturn dX5_find_40 rfl rfl ⟨rfl, rfl⟩ ?_
            exact ⟨by rw [ha, ff_step (by omega)]; simp_all, rfl⟩
  refine L3 _ 0 ?_ ?_ (Nat.lt_succ_self _)
  · first | omega | rfl | assumption | (simp_all [bo]; done)
  · rw [p_find, hct]; rfl
def p_knows (P : m_V) (N : m_L) (x : Int64) : Bool := decide (¬ p_find P N 0 x = -1) || decide (¬ p_find P N 1 x = -1) || decide (¬ p_find P N 3 x = -1) || decide (¬ p_find P N 4 x = -1) || decide (¬ p_find P N 6 x = -1)
set_option maxRecDepth 100000 in
set_option maxHeartbeats 4000000 in
theorem c_X5_knows (d : Nat) (h : m_H) (p : Nat) (P : m_V) (N : m_L) (hp : isPlan h.2.2 p) (hP : blI h p 21 P) (hL : blJ h p 21 N) (hN : okP P) (x : Int64) : MC yX5_knows cX5_knows 3 (some .boolean) (d + 2) 0 0 [.ref p, .long x] h (m_r (.int (b2 (p_knows P N x))) h) := by
  obtain ⟨⟨e0, g0⟩, ⟨e1, g1⟩, ⟨e2, g2⟩, ⟨e3, g3⟩, ⟨e4, g4⟩, ⟨e6, g6⟩⟩ := id hN
  refine mc_of (by decide +kernel) (Nat.le_of_ble_eq_true rfl) ?_
  show MW (yX5_knows.cls, cX5_knows, 3, (some .boolean), yX5_knows.name, d + 2, 0, 0) 0 (0, 0) [(0, .ref p), (1, .long x)] [] h _
  refine mw_aload_n 0 dX5_knows_0 rfl ?_
  refine mw_iconst (v := 0) dX5_knows_1 rfl ?_
  refine mw_lload_n 1 dX5_knows_2 rfl ?_
  refine mw_cV [.int 0, .long x] (c_X5_find d h p P N hp hP hL 0 _ x (by decide) e0 (by omega)) mY_X5_find dX5_knows_3 ml_X5_89 (pl_o hp) rfl rfl (by decide) ⟨Nat.le_refl _, Nat.le_refl _⟩ rfl ?_
  refine mw_iconst (v := -1) dX5_knows_6 rfl ?_
  refine mw_icmp_ne (tgt := 51) dX5_knows_7 (by decide) (fun c7 => ?_) (fun c7 => ?_)
  · refine mw_iconst (v := 1) dX5_knows_51 rfl ?_
    refine mw_goto (tgt := 56) dX5_knows_52 (by decide) ?_
    refine mw_ireturn dX5_knows_56 rfl rfl ⟨rfl, rfl⟩ ?_
    exact ⟨by simp_all [p_knows, b2], rfl⟩
  · refine mw_aload_n 0 dX5_knows_10 rfl ?_
    refine mw_iconst (v := 1) dX5_knows_11 rfl ?_
    refine mw_lload_n 1 dX5_knows_12 rfl ?_
    refine mw_cV [.int 1, .long x] (c_X5_find d h p P N hp hP hL 1 _ x (by decide) e1 (by omega)) mY_X5_find dX5_knows_13 ml_X5_89 (pl_o hp) rfl rfl (by decide) ⟨Nat.le_refl _, Nat.le_refl _⟩ rfl ?_
    refine mw_iconst (v := -1) dX5_knows_16 rfl ?_
    refine mw_icmp_ne (tgt := 51) dX5_knows_17 (by decide) (fun c17 => ?_) (fun c17 => ?_)
    · refine mw_iconst (v := 1) dX5_knows_51 rfl ?_
      refine mw_goto (tgt := 56) dX5_knows_52 (by decide) ?_
      refine mw_ireturn dX5_knows_56 rfl rfl ⟨rfl, rfl⟩ ?_
      exact ⟨by simp_all [p_knows, b2], rfl⟩
    · refine mw_aload_n 0 dX5_knows_20 rfl ?_
      refine mw_iconst (v := 3) dX5_knows_21 rfl ?_
      refine mw_lload_n 1 dX5_knows_22 rfl ?_
      refine mw_cV [.int 3, .long x] (c_X5_find d h p P N hp hP hL 3 _ x (by decide) e3 (by omega)) mY_X5_find dX5_knows_23 ml_X5_89 (pl_o hp) rfl rfl (by decide) ⟨Nat.le_refl _, Nat.le_refl _⟩ rfl ?_
      refine mw_iconst (v := -1) dX5_knows_26 rfl ?_
      refine mw_icmp_ne (tgt := 51) dX5_knows_27 (by decide) (fun c27 => ?_) (fun c27 => ?_)
      · refine mw_iconst (v := 1) dX5_knows_51 rfl ?_
        refine mw_goto (tgt := 56) dX5_knows_52 (by decide) ?_
        refine mw_ireturn dX5_knows_56 rfl rfl ⟨rfl, rfl⟩ ?_
        exact ⟨by simp_all [p_knows, b2], rfl⟩
      · refine mw_aload_n 0 dX5_knows_30 rfl ?_
        refine mw_iconst (v := 4) dX5_knows_31 rfl ?_
        refine mw_lload_n 1 dX5_knows_32 rfl ?_
        refine mw_cV [.int 4, .long x] (c_X5_find d h p P N hp hP hL 4 _ x (by decide) e4 (by omega)) mY_X5_find dX5_knows_33 ml_X5_89 (pl_o hp) rfl rfl (by decide) ⟨Nat.le_refl _, Nat.le_refl _⟩ rfl ?_
        refine mw_iconst (v := -1) dX5_knows_36 rfl ?_
        refine mw_icmp_ne (tgt := 51) dX5_knows_37 (by decide) (fun c37 => ?_) (fun c37 => ?_)
        · refine mw_iconst (v := 1) dX5_knows_51 rfl ?_
          refine mw_goto (tgt := 56) dX5_knows_52 (by decide) ?_
          refine mw_ireturn dX5_knows_56 rfl rfl ⟨rfl, rfl⟩ ?_
          exact ⟨by simp_all [p_knows, b2], rfl⟩
        · refine mw_aload_n 0 dX5_knows_40 rfl ?_
          refine mw_bipush (v := 6) dX5_knows_41 (by decide) ?_
          refine mw_lload_n 1 dX5_knows_43 rfl ?_
          refine mw_cV [.int 6, .long x] (c_X5_find d h p P N hp hP hL 6 _ x (by decide) e6 (by omega)) mY_X5_find dX5_knows_44 ml_X5_89 (pl_o hp) rfl rfl (by decide) ⟨Nat.le_refl _, Nat.le_refl _⟩ rfl ?_
          refine mw_iconst (v := -1) dX5_knows_47 rfl ?_
          refine mw_icmp_eq (tgt := 55) dX5_knows_48 (by decide) (fun c48 => ?_) (fun c48 => ?_)
          · refine mw_iconst (v := 0) dX5_knows_55 rfl ?_
            refine mw_ireturn dX5_knows_56 rfl rfl ⟨rfl, rfl⟩ ?_
            exact ⟨by simp_all [p_knows, b2], rfl⟩
          · refine mw_iconst (v := 1) dX5_knows_51 rfl ?_
            refine mw_goto (tgt := 56) dX5_knows_52 (by decide) ?_
            refine mw_ireturn dX5_knows_56 rfl rfl ⟨rfl, rfl⟩ ?_
            exact ⟨by simp_all [p_knows, b2], rfl⟩
set_option maxRecDepth 100000 in
set_option maxHeartbeats 4000000 in
theorem c_X5_nameOf (d : Nat) (h : m_H) (p : Nat) (P : m_V) (N : m_L) (hp : isPlan h.2.2 p) (hP : blI h p 21 P) (hL : blJ h p 21 N) (s i : Nat) (hs : s < 8) (hi : i < 12) : MC yX5_nameOf cX5_nameOf 3 (some .long) (d + 1) 0 0 [.ref p, .int (nI s), .int (nI i)] h (m_r (.long (N 2 (s * 12 + i))) h) := by
  refine mc_of (by decide +kernel) (Nat.le_of_ble_eq_true rfl) ?_
  show MW (yX5_nameOf.cls, cX5_nameOf, 3, (some .long), yX5_nameOf.name, d + 1, 0, 0) 0 (0, 0) [(0, .ref p), (1, .int (nI s)), (2, .int (nI i))] [] h _
  refine mw_aload_n 0 dX5_nameOf_0 rfl ?_
  refine mw_getr 5 1 dX5_nameOf_1 fl_X5_15 (by decide) (by decide) rfl (pl_o hp) (pl_r1 hp) ?_
  refine mw_iload_n 1 dX5_nameOf_4 rfl ?_
  refine mw_bipush (v := 12) dX5_nameOf_5 (by decide) ?_
  refine mw_imul dX5_nameOf_7 ?_
  refine mw_iload_n 2 dX5_nameOf_8 rfl ?_
  refine mw_iadd dX5_nameOf_9 ?_
  refine mw_laN (s * 12 + i) dX5_nameOf_10 (pl_a1 hp) (by omega) (by decide) (by rw [nI_lit 12, pk_mul, nI_add]) ?_
  refine mw_topl (x' := (N 2 (s * 12 + i))) (hL 2 (s * 12 + i) (by decide)) ?_
  refine mw_lreturn dX5_nameOf_11 rfl ⟨rfl, rfl⟩ ?_
  exact ⟨rfl, rfl⟩
set_option maxRecDepth 100000 in
set_option maxHeartbeats 4000000 in
theorem c_X5_addOne (d : Nat) (h : m_H) (p : Nat) (P : m_V) (N : m_L) (hp : isPlan h.2.2 p) (hP : blI h p 21 P) (hL : blJ h p 21 N) (s i : Nat) (x : Int64) (hs : s < 8) (hi : P 1 s = nI i) (hi12 : i < 12) : MC yX5_addOne cX5_addOne 5 (some .int) (d + 1) 0 0 [.ref p, .int (nI s), .long x] h (m_r (.int (nI i)) (m_bk h p 21 (u2 P 1 s (nI (i + 1))) (u2l N 2 (s * 12 + i) x))) := by
  refine mc_of (by decide +kernel) (Nat.le_of_ble_eq_true rfl) ?_
  show MW (yX5_addOne.cls, cX5_addOne, 5, (some .int), yX5_addOne.name, d + 1, 0, 0) 0 (0, 0) [(0, .ref p), (1, .int (nI s)), (2, .long x)] [] h _
  refine mw_hp (bk_self (n := 21) hP hL) ?_
  refine mw_aload_n 0 dX5_addOne_0 rfl ?_
  refine mw_getr 5 0 dX5_addOne_1 fl_X5_9 (by decide) (by decide) rfl (pl_o hp) (pl_r0 hp) ?_
  refine mw_iload_n 1 dX5_addOne_4 rfl ?_
  refine mw_iaN s dX5_addOne_5 (pl_a0 hp) (by omega) (by decide) rfl ?_
  refine mw_top (x' := (P 1 s)) (bk_i (j := 1) (by decide)) ?_
  refine mw_top (x' := (nI i)) hi ?_
  refine mw_istore [(4, .int (nI i)), (0, .ref p), (1, .int (nI s)), (2, .long x)] dX5_addOne_6 (Nat.le_of_ble_eq_true rfl) rfl ?_
  refine mw_aload_n 1 dX5_addOne_8 rfl ?_
  refine mw_getr 5 1 dX5_addOne_9 fl_X5_15 (by decide) (by decide) rfl (pl_o hp) (pl_r1 hp) ?_
  refine mw_iload_n 2 dX5_addOne_12 rfl ?_
  refine mw_bipush (v := 12) dX5_addOne_13 (by decide) ?_
  refine mw_imul dX5_addOne_15 ?_
  refine mw_iload 0 dX5_addOne_16 rfl ?_
  refine mw_iadd dX5_addOne_18 ?_
  refine mw_lload_n 3 dX5_addOne_19 rfl ?_
  refine mw_lsN (s * 12 + i) dX5_addOne_20 (pl_a1 hp) (by omega) (by decide) (by rw [nI_lit 12, pk_mul, nI_add]) ?_
  refine mw_hp (bk_sj (j := 2) (by decide)) ?_
  refine mw_aload_n 1 dX5_addOne_21 rfl ?_
  refine mw_getr 5 0 dX5_addOne_22 fl_X5_9 (by decide) (by decide) rfl (pl_o hp) (pl_r0 hp) ?_
  refine mw_iload_n 2 dX5_addOne_25 rfl ?_
  refine mw_iload 0 dX5_addOne_26 rfl ?_
  refine mw_iconst (v := 1) dX5_addOne_28 rfl ?_
  refine mw_iadd dX5_addOne_29 ?_
  refine mw_top (x' := (nI (i + 1))) (nI_1 i) ?_
  refine mw_isN s dX5_addOne_30 (pl_a0 hp) (by omega) (by decide) rfl ?_
  refine mw_hp (bk_si (j := 1) (by decide)) ?_
  refine mw_iload 0 dX5_addOne_31 rfl ?_
  refine mw_ireturn dX5_addOne_33 rfl rfl ⟨rfl, rfl⟩ ?_
  exact ⟨rfl, rfl⟩
