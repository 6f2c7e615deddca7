def s_occupied (P V : m_V) : Int32 := lo (fun t a => if V 4 t = -1 then a else a ||| (1 <<< (V 4 t &&& 31))) (ct P 6) 0
set_option maxRecDepth 100000 in
set_option maxHeartbeats 4000000 in
theorem c_X8_occupied (d : Nat) (h : m_H) (s : Nat) (V P : m_V) (hs : isState h.2.2 s) (hp : isPlan h.2.2 4) (hV : blI h s 7 V) (hP : blI h 4 21 P) (hN : okP P)  : MC yX8_occupied cX8_occupied 3 (some .int) (d + 1) 0 0 [.ref s] h (m_r (.int (s_occupied P V)) h) := by
  obtain ⟨e6, g6⟩ := hN.2.2.2.2.2
  refine mc_of (by decide +kernel) (Nat.le_of_ble_eq_true rfl) ?_
  show MW (yX8_occupied.cls, cX8_occupied, 3, (some .int), yX8_occupied.name, d + 1, 0, 0) 0 (0, 0) [(0, .ref s)] [] h _
  refine mw_iconst (v := 0) dX8_occupied_0 rfl ?_
  refine mw_istore_n [(1, .int 0), (0, .ref s)] dX8_occupied_1 (Nat.le_of_ble_eq_true rfl) rfl ?_
  refine mw_iconst (v := 0) dX8_occupied_2 rfl ?_
  refine mw_istore_n [(2, .int 0), (1, .int 0), (0, .ref s)] dX8_occupied_3 (Nat.le_of_ble_eq_true rfl) rfl ?_
  have L4 : ∀ (m4 : Nat) (i : Nat) (acc : Int32), (i ≤ ct P 6) → (acc = lo (fun t a => if V 4 t = -1 then a else a ||| (1 <<< (V 4 t &&& 31))) i 0) → ct P 6 - i < m4 → MW (yX8_occupied.cls, cX8_occupied, 3, (some .int), yX8_occupied.name, d + 1, 0, 0) 4 (0, 0) [(2, .int (nI i)), (1, .int acc), (0, .ref s)] [] h (m_r (.int (s_occupied P V)) h) := by
    intro m4
    induction m4 with
    | zero => intro i acc _ _ hm4; exact absurd hm4 (Nat.not_lt_zero _)
    | succ m4 ih4 =>
      intro i acc hi ha hm4
      refine mw_iload_n 0 dX8_occupied_4 rfl ?_
      refine mw_aload_n 2 dX8_occupied_5 rfl ?_
      refine mw_getr 8 0 dX8_occupied_6 fl_X8_52 (by decide) (by decide) rfl (sa_o hs) (sa_r0 hs) ?_
      refine mw_getr 5 0 dX8_occupied_9 fl_X8_71 (by decide) (by decide) rfl (pl_o hp) (pl_r0 hp) ?_
      refine mw_bipush (v := 6) dX8_occupied_12 (by decide) ?_
      refine mw_iaN 6 dX8_occupied_14 (pl_a0 hp) (by decide) (by decide) (by decide) ?_
      refine mw_top (x' := (nI (ct P 6))) ((hP 1 6 (by decide)).trans e6) ?_
      refine mw_icmp_ge (tgt := 45) dX8_occupied_15 (by decide) (fun c => ?_) (fun c => ?_)
      · have c := (nI_leI (by omega) (by omega)).mp c
        refine mw_iload_n 1 dX8_occupied_45 rfl ?_
        refine mw_ireturn dX8_occupied_46 rfl rfl ⟨rfl, rfl⟩ ?_
        exact ⟨by rw [ha, show i = ct P 6 by omega]; rfl, rfl⟩
      · have c := mt (nI_leI (by omega) (by omega)).mpr c
        refine mw_aload_n 2 dX8_occupied_18 rfl ?_
        refine mw_getr 8 11 dX8_occupied_19 fl_X8_43 (by decide) (by decide) rfl (sa_o hs) (sa_r11 hs) ?_
        refine mw_iload_n 0 dX8_occupied_22 rfl ?_
        refine mw_iaN i dX8_occupied_23 (sa_a11 hs) (by omega) (by decide) rfl ?_
        refine mw_top (x' := (V 4 i)) (hV 4 i (by decide)) ?_
        refine mw_iconst (v := -1) dX8_occupied_24 rfl ?_
        refine mw_icmp_eq (tgt := 39) dX8_occupied_25 (by decide) (fun c25 => ?_) (fun c25 => ?_)
        · refine mw_iinc 0 (nI (i + 1)) [(2, .int (nI (i + 1))), (1, .int acc), (0, .ref s)] dX8_occupied_39 rfl (nI_1 _) (Nat.le_of_ble_eq_true rfl) rfl ?_
          refine mw_goto (tgt := 4) dX8_occupied_42 (by decide) ?_
          refine ih4 _ _ ?_ ?_ ?_
          · first | omega | rfl | assumption | (simp_all [bo]; done)
          · first | (simp_all [bo, lo]; done)
          · omega
        · refine mw_iload_n 1 dX8_occupied_28 rfl ?_
          refine mw_iconst (v := 1) dX8_occupied_29 rfl ?_
          refine mw_aload_n 2 dX8_occupied_30 rfl ?_
          refine mw_getr 8 11 dX8_occupied_31 fl_X8_43 (by decide) (by decide) rfl (sa_o hs) (sa_r11 hs) ?_
          refine mw_iload_n 0 dX8_occupied_34 rfl ?_
          refine mw_iaN i dX8_occupied_35 (sa_a11 hs) (by omega) (by decide) rfl ?_
          refine mw_top (x' := (V 4 i)) (hV 4 i (by decide)) ?_
          refine mw_ishl dX8_occupied_36 ?_
          refine mw_ior dX8_occupied_37 ?_
          refine mw_istore_n [(1, .int (acc ||| (1 <<< ((V 4 i) &&& 31)))), (2, .int (nI i)), (0, .ref s)] dX8_occupied_38 (Nat.le_of_ble_eq_true rfl) rfl ?_
          refine mw_iinc 1 (nI (i + 1)) [(2, .int (nI (i + 1))), (1, .int (acc ||| (1 <<< ((V 4 i) &&& 31)))), (0, .ref s)] dX8_occupied_39 rfl (nI_1 _) (Nat.le_of_ble_eq_true rfl) rfl ?_
          refine mw_goto (tgt := 4) dX8_occupied_42 (by decide) ?_
          refine ih4 _ _ ?_ ?_ ?_
          · first | omega | rfl | assumption | (simp_all [bo]; done)
          · first | (simp_all [bo, lo]; done)
          · omega
  refine L4 _ 0 0 ?_ ?_ (Nat.lt_succ_self _)
  · first | omega | rfl | assumption | (simp_all [bo]; done)
  · rfl
def s_showing (P V : m_V) : Int32 := (s_occupied P V &&& (V 0 4 ^^^ -1)) ||| V 0 5
set_option maxRecDepth 100000 in
set_option maxHeartbeats 4000000 in
theorem c_X8_showing (d : Nat) (h : m_H) (s : Nat) (V P : m_V) (hs : isState h.2.2 s) (hp : isPlan h.2.2 4) (hV : blI h s 7 V) (hP : blI h 4 21 P) (hN : okP P)  : MC yX8_showing cX8_showing 1 (some .int) (d + 2) 0 0 [.ref s] h (m_r (.int (s_showing P V)) h) := by
  refine mc_of (by decide +kernel) (Nat.le_of_ble_eq_true rfl) ?_
  show MW (yX8_showing.cls, cX8_showing, 1, (some .int), yX8_showing.name, d + 2, 0, 0) 0 (0, 0) [(0, .ref s)] [] h _
  refine mw_aload_n 0 dX8_showing_0 rfl ?_
  refine mw_cV (rest := []) [] (c_X8_occupied d h s V P hs hp hV hP hN) mY_X8_occupied dX8_showing_1 ml_X8_74 (sa_o hs) rfl rfl (Nat.le_of_ble_eq_true rfl) ⟨Nat.le_refl _, Nat.le_refl _⟩ rfl ?_
  refine mw_aload_n 0 dX8_showing_4 rfl ?_
  refine mw_geti 8 4 dX8_showing_5 fl_X8_21 (by decide) (by decide) rfl (sa_o hs) ?_
  refine mw_top (x' := (V 0 4)) (hV 0 4 (by decide)) ?_
  refine mw_iconst (v := -1) dX8_showing_8 rfl ?_
  refine mw_ixor dX8_showing_9 ?_
  refine mw_iand dX8_showing_10 ?_
  refine mw_aload_n 0 dX8_showing_11 rfl ?_
  refine mw_geti 8 5 dX8_showing_12 fl_X8_24 (by decide) (by decide) rfl (sa_o hs) ?_
  refine mw_top (x' := (V 0 5)) (hV 0 5 (by decide)) ?_
  refine mw_ior dX8_showing_15 ?_
  refine mw_ireturn dX8_showing_16 rfl rfl ⟨rfl, rfl⟩ ?_
  exact ⟨rfl, rfl⟩
def s_failing (V : m_V) (k : Int32) : Int32 := ((V 0 4 >>> (k &&& 31)) &&& 1) + 2 * ((V 0 5 >>> (k &&& 31)) &&& 1)
set_option maxRecDepth 100000 in
set_option maxHeartbeats 4000000 in
theorem c_X8_failing (d : Nat) (h : m_H) (s : Nat) (V P : m_V) (hs : isState h.2.2 s) (hp : isPlan h.2.2 4) (hV : blI h s 7 V) (hP : blI h 4 21 P) (hN : okP P) (k : Int32) : MC yX8_failing cX8_failing 2 (some .int) (d + 1) 0 0 [.ref s, .int k] h (m_r (.int (s_failing V k)) h) := by
  refine mc_of (by decide +kernel) (Nat.le_of_ble_eq_true rfl) ?_
  show MW (yX8_failing.cls, cX8_failing, 2, (some .int), yX8_failing.name, d + 1, 0, 0) 0 (0, 0) [(0, .ref s), (1, .int k)] [] h _
  refine mw_aload_n 0 dX8_failing_0 rfl ?_
  refine mw_geti 8 4 dX8_failing_1 fl_X8_21 (by decide) (by decide) rfl (sa_o hs) ?_
  refine mw_top (x' := (V 0 4)) (hV 0 4 (by decide)) ?_
  refine mw_iload_n 1 dX8_failing_4 rfl ?_
  refine mw_ishr dX8_failing_5 ?_
  refine mw_iconst (v := 1) dX8_failing_6 rfl ?_
  refine mw_iand dX8_failing_7 ?_
  refine mw_iconst (v := 2) dX8_failing_8 rfl ?_
  refine mw_aload_n 0 dX8_failing_9 rfl ?_
  refine mw_geti 8 5 dX8_failing_10 fl_X8_24 (by decide) (by decide) rfl (sa_o hs) ?_
  refine mw_top (x' := (V 0 5)) (hV 0 5 (by decide)) ?_
  refine mw_iload_n 1 dX8_failing_13 rfl ?_
  refine mw_ishr dX8_failing_14 ?_
  refine mw_iconst (v := 1) dX8_failing_15 rfl ?_
  refine mw_iand dX8_failing_16 ?_
  refine mw_imul dX8_failing_17 ?_
  refine mw_iadd dX8_failing_18 ?_
  refine mw_ireturn dX8_failing_19 rfl rfl ⟨rfl, rfl⟩ ?_
  exact ⟨rfl, rfl⟩
def s_leastTrainIn (P V : m_V) (k b : Int32) : Int32 := ff (fun t => decide (¬ nI t = b ∧ V 4 t = k)) 0 (ct P 6)
set_option maxRecDepth 100000 in
set_option maxHeartbeats 4000000 in
theorem c_X8_leastTrainIn (d : Nat) (h : m_H) (s : Nat) (V P : m_V) (hs : isState h.2.2 s) (hp : isPlan h.2.2 4) (hV : blI h s 7 V) (hP : blI h 4 21 P) (hN : okP P) (k b : Int32) : MC yX8_leastTrainIn cX8_leastTrainIn 4 (some .int) (d + 1) 0 0 [.ref s, .int k, .int b] h (m_r (.int (s_leastTrainIn P V k b)) h) := by
  obtain ⟨e6, g6⟩ := hN.2.2.2.2.2
  refine mc_of (by decide +kernel) (Nat.le_of_ble_eq_true rfl) ?_
  show MW (yX8_leastTrainIn.cls, cX8_leastTrainIn, 4, (some .int), yX8_leastTrainIn.name, d + 1, 0, 0) 0 (0, 0) [(0, .ref s), (1, .int k), (2, .int b)] [] h _
  refine mw_iconst (v := 0) dX8_leastTrainIn_0 rfl ?_
  refine mw_istore_n [(3, .int 0), (0, .ref s), (1, .int k), (2, .int b)] dX8_leastTrainIn_1 (Nat.le_of_ble_eq_true rfl) rfl ?_
  have L2 : ∀ (m2 : Nat) (i : Nat), (i ≤ ct P 6) → (s_leastTrainIn P V k b = ff (fun t => decide (¬ nI t = b ∧ V 4 t = k)) i (ct P 6 - i)) → ct P 6 - i < m2 → MW (yX8_leastTrainIn.cls, cX8_leastTrainIn, 4, (some .int), yX8_leastTrainIn.name, d + 1, 0, 0) 2 (0, 0) [(3, .int (nI i)), (0, .ref s), (1, .int k), (2, .int b)] [] h (m_r (.int (s_leastTrainIn P V k b)) h) := by
    intro m2
    induction m2 with
    | zero => intro i _ _ hm2; exact absurd hm2 (Nat.not_lt_zero _)
    | succ m2 ih2 =>
      intro i hi ha hm2
      refine mw_iload_n 0 dX8_leastTrainIn_2 rfl ?_
      refine mw_aload_n 1 dX8_leastTrainIn_3 rfl ?_
      refine mw_getr 8 0 dX8_leastTrainIn_4 fl_X8_52 (by decide) (by decide) rfl (sa_o hs) (sa_r0 hs) ?_
      refine mw_getr 5 0 dX8_leastTrainIn_7 fl_X8_71 (by decide) (by decide) rfl (pl_o hp) (pl_r0 hp) ?_
      refine mw_bipush (v := 6) dX8_leastTrainIn_10 (by decide) ?_
      refine mw_iaN 6 dX8_leastTrainIn_12 (pl_a0 hp) (by decide) (by decide) (by decide) ?_
      refine mw_top (x' := (nI (ct P 6))) ((hP 1 6 (by decide)).trans e6) ?_
      refine mw_icmp_ge (tgt := 39) dX8_leastTrainIn_13 (by decide) (fun c => ?_) (fun c => ?_)
      · have c := (nI_leI (by omega) (by omega)).mp c
        refine mw_iconst (v := -1) dX8_leastTrainIn_39 rfl ?_
        refine mw_ireturn dX8_leastTrainIn_40 rfl rfl ⟨rfl, rfl⟩ ?_
        exact ⟨by rw [ha, show ct P 6 - i = 0 by omega]; rfl, rfl⟩
      · have c := mt (nI_leI (by omega) (by omega)).mpr c
        refine mw_iload_n 0 dX8_leastTrainIn_16 rfl ?_
        refine mw_iload_n 3 dX8_leastTrainIn_17 rfl ?_
        refine mw_icmp_eq (tgt := 33) dX8_leastTrainIn_18 (by decide) (fun c18 => ?_) (fun c18 => ?_)
        · refine mw_iinc 0 (nI (i + 1)) [(3, .int (nI (i + 1))), (0, .ref s), (1, .int k), (2, .int b)] dX8_leastTrainIn_33 rfl (nI_1 _) (Nat.le_of_ble_eq_true rfl) rfl ?_
          refine mw_goto (tgt := 2) dX8_leastTrainIn_36 (by decide) ?_
          refine ih2 _ ?_ ?_ ?_
          · first | omega | rfl | assumption | (simp_all [bo]; done)
          · rw [ha, ff_step (by omega)]; simp_all
          · omega
        · refine mw_aload_n 1 dX8_leastTrainIn_21 rfl ?_
          refine mw_getr 8 11 dX8_leastTrainIn_22 fl_X8_43 (by decide) (by decide) rfl (sa_o hs) (sa_r11 hs) ?_
          refine mw_iload_n 0 dX8_leastTrainIn_25 rfl ?_
          refine mw_iaN i dX8_leastTrainIn_26 (sa_a11 hs) (by omega) (by decide) rfl ?_
          refine mw_top (x' := (V 4 i)) (hV 4 i (by decide)) ?_
          refine mw_iload_n 2 dX8_leastTrainIn_27 rfl ?_
          refine mw_icmp_ne (tgt := 33) dX8_leastTrainIn_28 (by decide) (fun c28 => ?_) (fun c28 => ?_)
          · refine mw_iinc 0 (nI (i + 1)) [(3, .int (nI (i + 1))), (0, .ref s), (1, .int k), (2, .int b)] dX8_leastTrainIn_33 rfl (nI_1 _) (Nat.le_of_ble_eq_true rfl) rfl ?_
            refine mw_goto (tgt := 2) dX8_leastTrainIn_36 (by decide) ?_
            refine ih2 _ ?_ ?_ ?_
            · first | omega | rfl | assumption | (simp_all [bo]; done)
            · rw [ha, ff_step (by omega)]; simp_all
            · omega
          · refine mw_iload_n 0 dX8_leastTrainIn_31 rfl ?_
            refine mw_ireturn dX8_leastTrainIn_32 rfl rfl ⟨rfl, rfl⟩ ?_
            exact ⟨by rw [ha, ff_step (by omega)]; simp_all, rfl⟩
  refine L2 _ 0 ?_ ?_ (Nat.lt_succ_self _)
  · first | omega | rfl | assumption | (simp_all [bo]; done)
  · rfl
def s_notFree (P V : m_V) : Int32 := bo (fun r => decide (¬ V 1 r = 0)) (ct P 4)
set_option maxRecDepth 100000 in
set_option maxHeartbeats 4000000 in
theorem c_X8_notFree (d : Nat) (h : m_H) (s : Nat) (V P : m_V) (hs : isState h.2.2 s) (hp : isPlan h.2.2 4) (hV : blI h s 7 V) (hP : blI h 4 21 P) (hN : okP P)  : MC yX8_notFree cX8_notFree 3 (some .int) (d + 1) 0 0 [.ref s] h (m_r (.int (s_notFree P V)) h) := by
  obtain ⟨e4, g4⟩ := hN.2.2.2.2.1
  refine mc_of (by decide +kernel) (Nat.le_of_ble_eq_true rfl) ?_
  show MW (yX8_notFree.cls, cX8_notFree, 3, (some .int), yX8_notFree.name, d + 1, 0, 0) 0 (0, 0) [(0, .ref s)] [] h _
  refine mw_iconst (v := 0) dX8_notFree_0 rfl ?_
  refine mw_istore_n [(1, .int 0), (0, .ref s)] dX8_notFree_1 (Nat.le_of_ble_eq_true rfl) rfl ?_
  refine mw_iconst (v := 0) dX8_notFree_2 rfl ?_
  refine mw_istore_n [(2, .int 0), (1, .int 0), (0, .ref s)] dX8_notFree_3 (Nat.le_of_ble_eq_true rfl) rfl ?_
  have L4 : ∀ (m4 : Nat) (i : Nat) (acc : Int32), (i ≤ ct P 4) → (acc = bo (fun r => decide (¬ V 1 r = 0)) i) → ct P 4 - i < m4 → MW (yX8_notFree.cls, cX8_notFree, 3, (some .int), yX8_notFree.name, d + 1, 0, 0) 4 (0, 0) [(2, .int (nI i)), (1, .int acc), (0, .ref s)] [] h (m_r (.int (s_notFree P V)) h) := by
    intro m4
    induction m4 with
    | zero => intro i acc _ _ hm4; exact absurd hm4 (Nat.not_lt_zero _)
    | succ m4 ih4 =>
      intro i acc hi ha hm4
      refine mw_iload_n 0 dX8_notFree_4 rfl ?_
      refine mw_aload_n 2 dX8_notFree_5 rfl ?_
      refine mw_getr 8 0 dX8_notFree_6 fl_X8_52 (by decide) (by decide) rfl (sa_o hs) (sa_r0 hs) ?_
      refine mw_getr 5 0 dX8_notFree_9 fl_X8_71 (by decide) (by decide) rfl (pl_o hp) (pl_r0 hp) ?_
      refine mw_iconst (v := 4) dX8_notFree_12 rfl ?_
      refine mw_iaN 4 dX8_notFree_13 (pl_a0 hp) (by decide) (by decide) (by decide) ?_
      refine mw_top (x' := (nI (ct P 4))) ((hP 1 4 (by decide)).trans e4) ?_
      refine mw_icmp_ge (tgt := 38) dX8_notFree_14 (by decide) (fun c => ?_) (fun c => ?_)
      · have c := (nI_leI (by omega) (by omega)).mp c
        refine mw_iload_n 1 dX8_notFree_38 rfl ?_
        refine mw_ireturn dX8_notFree_39 rfl rfl ⟨rfl, rfl⟩ ?_
        exact ⟨by rw [ha, show i = ct P 4 by omega]; rfl, rfl⟩
      · have c := mt (nI_leI (by omega) (by omega)).mpr c
        refine mw_aload_n 2 dX8_notFree_17 rfl ?_
        refine mw_getr 8 8 dX8_notFree_18 fl_X8_33 (by decide) (by decide) rfl (sa_o hs) (sa_r8 hs) ?_
        refine mw_iload_n 0 dX8_notFree_21 rfl ?_
        refine mw_iaN i dX8_notFree_22 (sa_a8 hs) (by omega) (by decide) rfl ?_
        refine mw_top (x' := (V 1 i)) (hV 1 i (by decide)) ?_
        refine mw_if_eq (tgt := 32) dX8_notFree_23 (by decide) (fun c23 => ?_) (fun c23 => ?_)
        · refine mw_iinc 0 (nI (i + 1)) [(2, .int (nI (i + 1))), (1, .int acc), (0, .ref s)] dX8_notFree_32 rfl (nI_1 _) (Nat.le_of_ble_eq_true rfl) rfl ?_
          refine mw_goto (tgt := 4) dX8_notFree_35 (by decide) ?_
          refine ih4 _ _ ?_ ?_ ?_
          · first | omega | rfl | assumption | (simp_all [bo]; done)
          · first | (simp_all [bo, lo]; done)
          · omega
        · refine mw_iload_n 1 dX8_notFree_26 rfl ?_
          refine mw_iconst (v := 1) dX8_notFree_27 rfl ?_
          refine mw_iload_n 0 dX8_notFree_28 rfl ?_
          refine mw_ishl dX8_notFree_29 ?_
          refine mw_ior dX8_notFree_30 ?_
          refine mw_istore_n [(1, .int (acc ||| (1 <<< ((nI i) &&& 31)))), (2, .int (nI i)), (0, .ref s)] dX8_notFree_31 (Nat.le_of_ble_eq_true rfl) rfl ?_
          refine mw_iinc 1 (nI (i + 1)) [(2, .int (nI (i + 1))), (1, .int (acc ||| (1 <<< ((nI i) &&& 31)))), (0, .ref s)] dX8_notFree_32 rfl (nI_1 _) (Nat.le_of_ble_eq_true rfl) rfl ?_
          refine mw_goto (tgt := 4) dX8_notFree_35 (by decide) ?_
          refine ih4 _ _ ?_ ?_ ?_
          · first | omega | rfl | assumption | (simp_all [bo]; done)
          · first | (simp_all [bo, lo]; done)
          · omega
  refine L4 _ 0 0 ?_ ?_ (Nat.lt_succ_self _)
  · first | omega | rfl | assumption | (simp_all [bo]; done)
  · rfl
def s_routesUsedBy (P V : m_V) (t : Int32) : Int32 := bo (fun r => decide (V 1 r = 2 ∧ V 3 r = t)) (ct P 4)
set_option maxRecDepth 100000 in
set_option maxHeartbeats 4000000 in
theorem c_X8_routesUsedBy (d : Nat) (h : m_H) (s : Nat) (V P : m_V) (hs : isState h.2.2 s) (hp : isPlan h.2.2 4) (hV : blI h s 7 V) (hP : blI h 4 21 P) (hN : okP P) (t : Int32) : MC yX8_routesUsedBy cX8_routesUsedBy 4 (some .int) (d + 1) 0 0 [.ref s, .int t] h (m_r (.int (s_routesUsedBy P V t)) h) := by
  obtain ⟨e4, g4⟩ := hN.2.2.2.2.1
  refine mc_of (by decide +kernel) (Nat.le_of_ble_eq_true rfl) ?_
  show MW (yX8_routesUsedBy.cls, cX8_routesUsedBy, 4, (some .int), yX8_routesUsedBy.name, d + 1, 0, 0) 0 (0, 0) [(0, .ref s), (1, .int t)] [] h _
  refine mw_iconst (v := 0) dX8_routesUsedBy_0 rfl ?_
  refine mw_istore_n [(2, .int 0), (0, .ref s), (1, .int t)] dX8_routesUsedBy_1 (Nat.le_of_ble_eq_true rfl) rfl ?_
  refine mw_iconst (v := 0) dX8_routesUsedBy_2 rfl ?_
  refine mw_istore_n [(3, .int 0), (2, .int 0), (0, .ref s), (1, .int t)] dX8_routesUsedBy_3 (Nat.le_of_ble_eq_true rfl) rfl ?_
  have L4 : ∀ (m4 : Nat) (i : Nat) (acc : Int32), (i ≤ ct P 4) → (acc = bo (fun r => decide (V 1 r = 2 ∧ V 3 r = t)) i) → ct P 4 - i < m4 → MW (yX8_routesUsedBy.cls, cX8_routesUsedBy, 4, (some .int), yX8_routesUsedBy.name, d + 1, 0, 0) 4 (0, 0) [(3, .int (nI i)), (2, .int acc), (0, .ref s), (1, .int t)] [] h (m_r (.int (s_routesUsedBy P V t)) h) := by
    intro m4
    induction m4 with
    | zero => intro i acc _ _ hm4; exact absurd hm4 (Nat.not_lt_zero _)
    | succ m4 ih4 =>
      intro i acc hi ha hm4
      refine mw_iload_n 0 dX8_routesUsedBy_4 rfl ?_
      refine mw_aload_n 2 dX8_routesUsedBy_5 rfl ?_
      refine mw_getr 8 0 dX8_routesUsedBy_6 fl_X8_52 (by decide) (by decide) rfl (sa_o hs) (sa_r0 hs) ?_
      refine mw_getr 5 0 dX8_routesUsedBy_9 fl_X8_71 (by decide) (by decide) rfl (pl_o hp) (pl_r0 hp) ?_
      refine mw_iconst (v := 4) dX8_routesUsedBy_12 rfl ?_
      refine mw_iaN 4 dX8_routesUsedBy_13 (pl_a0 hp) (by decide) (by decide) (by decide) ?_
      refine mw_top (x' := (nI (ct P 4))) ((hP 1 4 (by decide)).trans e4) ?_
      refine mw_icmp_ge (tgt := 49) dX8_routesUsedBy_14 (by decide) (fun c => ?_) (fun c => ?_)
      · have c := (nI_leI (by omega) (by omega)).mp c
        refine mw_iload_n 1 dX8_routesUsedBy_49 rfl ?_
        refine mw_ireturn dX8_routesUsedBy_50 rfl rfl ⟨rfl, rfl⟩ ?_
        exact ⟨by rw [ha, show i = ct P 4 by omega]; rfl, rfl⟩
      · have c := mt (nI_leI (by omega) (by omega)).mpr c
        refine mw_aload_n 2 dX8_routesUsedBy_17 rfl ?_
        refine mw_getr 8 8 dX8_routesUsedBy_18 fl_X8_33 (by decide) (by decide) rfl (sa_o hs) (sa_r8 hs) ?_
        refine mw_iload_n 0 dX8_routesUsedBy_21 rfl ?_
        refine mw_iaN i dX8_routesUsedBy_22 (sa_a8 hs) (by omega) (by decide) rfl ?_
        refine mw_top (x' := (V 1 i)) (hV 1 i (by decide)) ?_
        refine mw_iconst (v := 2) dX8_routesUsedBy_23 rfl ?_
        refine mw_icmp_ne (tgt := 43) dX8_routesUsedBy_24 (by decide) (fun c24 => ?_) (fun c24 => ?_)
        · refine mw_iinc 0 (nI (i + 1)) [(3, .int (nI (i + 1))), (2, .int acc), (0, .ref s), (1, .int t)] dX8_routesUsedBy_43 rfl (nI_1 _) (Nat.le_of_ble_eq_true rfl) rfl ?_
          refine mw_goto (tgt := 4) dX8_routesUsedBy_46 (by decide) ?_
          refine ih4 _ _ ?_ ?_ ?_
          · first | omega | rfl | assumption | (simp_all [bo]; done)
          · first | (simp_all [bo, lo]; done)
          · omega
        · refine mw_aload_n 2 dX8_routesUsedBy_27 rfl ?_
          refine mw_getr 8 10 dX8_routesUsedBy_28 fl_X8_40 (by decide) (by decide) rfl (sa_o hs) (sa_r10 hs) ?_
          refine mw_iload_n 0 dX8_routesUsedBy_31 rfl ?_
          refine mw_iaN i dX8_routesUsedBy_32 (sa_a10 hs) (by omega) (by decide) rfl ?_
          refine mw_top (x' := (V 3 i)) (hV 3 i (by decide)) ?_
          refine mw_iload_n 3 dX8_routesUsedBy_33 rfl ?_
          refine mw_icmp_ne (tgt := 43) dX8_routesUsedBy_34 (by decide) (fun c34 => ?_) (fun c34 => ?_)
          · refine mw_iinc 0 (nI (i + 1)) [(3, .int (nI (i + 1))), (2, .int acc), (0, .ref s), (1, .int t)] dX8_routesUsedBy_43 rfl (nI_1 _) (Nat.le_of_ble_eq_true rfl) rfl ?_
            refine mw_goto (tgt := 4) dX8_routesUsedBy_46 (by decide) ?_
            refine ih4 _ _ ?_ ?_ ?_
            · first | omega | rfl | assumption | (simp_all [bo]; done)
            · first | (simp_all [bo, lo]; done)
            · omega
          · refine mw_iload_n 1 dX8_routesUsedBy_37 rfl ?_
            refine mw_iconst (v := 1) dX8_routesUsedBy_38 rfl ?_
            refine mw_iload_n 0 dX8_routesUsedBy_39 rfl ?_
            refine mw_ishl dX8_routesUsedBy_40 ?_
            refine mw_ior dX8_routesUsedBy_41 ?_
            refine mw_istore_n [(2, .int (acc ||| (1 <<< ((nI i) &&& 31)))), (3, .int (nI i)), (0, .ref s), (1, .int t)] dX8_routesUsedBy_42 (Nat.le_of_ble_eq_true rfl) rfl ?_
            refine mw_iinc 1 (nI (i + 1)) [(3, .int (nI (i + 1))), (2, .int (acc ||| (1 <<< ((nI i) &&& 31)))), (0, .ref s), (1, .int t)] dX8_routesUsedBy_43 rfl (nI_1 _) (Nat.le_of_ble_eq_true rfl) rfl ?_
            refine mw_goto (tgt := 4) dX8_routesUsedBy_46 (by decide) ?_
            refine ih4 _ _ ?_ ?_ ?_
            · first | omega | rfl | assumption | (simp_all [bo]; done)
            · first | (simp_all [bo, lo]; done)
            · omega
  refine L4 _ 0 0 ?_ ?_ (Nat.lt_succ_self _)
  · first | omega | rfl | assumption | (simp_all [bo]; done)
  · rfl
def s_setRouteOf (P V : m_V) (g : Int32) : Int32 := ff (fun r => decide (P 11 r = g ∧ V 1 r = 1)) 0 (ct P 4)
set_option maxRecDepth 100000 in
set_option maxHeartbeats 4000000 in
theorem c_X8_setRouteOf (d : Nat) (h : m_H) (s : Nat) (V P : m_V) (hs : isState h.2.2 s) (hp : isPlan h.2.2 4) (hV : blI h s 7 V) (hP : blI h 4 21 P) (hN : okP P) (g : Int32) : MC yX8_setRouteOf cX8_setRouteOf 3 (some .int) (d + 1) 0 0 [.ref s, .int g] h (m_r (.int (s_setRouteOf P V g)) h) := by
  obtain ⟨e4, g4⟩ := hN.2.2.2.2.1
  refine mc_of (by decide +kernel) (Nat.le_of_ble_eq_true rfl) ?_
  show MW (yX8_setRouteOf.cls, cX8_setRouteOf, 3, (some .int), yX8_setRouteOf.name, d + 1, 0, 0) 0 (0, 0) [(0, .ref s), (1, .int g)] [] h _
  refine mw_iconst (v := 0) dX8_setRouteOf_0 rfl ?_
  refine mw_istore_n [(2, .int 0), (0, .ref s), (1, .int g)] dX8_setRouteOf_1 (Nat.le_of_ble_eq_true rfl) rfl ?_
  have L2 : ∀ (m2 : Nat) (i : Nat), (i ≤ ct P 4) → (s_setRouteOf P V g = ff (fun r => decide (P 11 r = g ∧ V 1 r = 1)) i (ct P 4 - i)) → ct P 4 - i < m2 → MW (yX8_setRouteOf.cls, cX8_setRouteOf, 3, (some .int), yX8_setRouteOf.name, d + 1, 0, 0) 2 (0, 0) [(2, .int (nI i)), (0, .ref s), (1, .int g)] [] h (m_r (.int (s_setRouteOf P V g)) h) := by
    intro m2
    induction m2 with
    | zero => intro i _ _ hm2; exact absurd hm2 (Nat.not_lt_zero _)
    | succ m2 ih2 =>
      intro i hi ha hm2
      refine mw_iload_n 0 dX8_setRouteOf_2 rfl ?_
      refine mw_aload_n 1 dX8_setRouteOf_3 rfl ?_
      refine mw_getr 8 0 dX8_setRouteOf_4 fl_X8_52 (by decide) (by decide) rfl (sa_o hs) (sa_r0 hs) ?_
      refine mw_getr 5 0 dX8_setRouteOf_7 fl_X8_71 (by decide) (by decide) rfl (pl_o hp) (pl_r0 hp) ?_
      refine mw_iconst (v := 4) dX8_setRouteOf_10 rfl ?_
      refine mw_iaN 4 dX8_setRouteOf_11 (pl_a0 hp) (by decide) (by decide) (by decide) ?_
      refine mw_top (x' := (nI (ct P 4))) ((hP 1 4 (by decide)).trans e4) ?_
      refine mw_icmp_ge (tgt := 46) dX8_setRouteOf_12 (by decide) (fun c => ?_) (fun c => ?_)
      · have c := (nI_leI (by omega) (by omega)).mp c
        refine mw_iconst (v := -1) dX8_setRouteOf_46 rfl ?_
        refine mw_ireturn dX8_setRouteOf_47 rfl rfl ⟨rfl, rfl⟩ ?_
        exact ⟨by rw [ha, show ct P 4 - i = 0 by omega]; rfl, rfl⟩
      · have c := mt (nI_leI (by omega) (by omega)).mpr c
        refine mw_aload_n 1 dX8_setRouteOf_15 rfl ?_
        refine mw_getr 8 0 dX8_setRouteOf_16 fl_X8_52 (by decide) (by decide) rfl (sa_o hs) (sa_r0 hs) ?_
        refine mw_getr 5 10 dX8_setRouteOf_19 fl_X8_78 (by decide) (by decide) rfl (pl_o hp) (pl_r10 hp) ?_
        refine mw_iload_n 0 dX8_setRouteOf_22 rfl ?_
        refine mw_iaN i dX8_setRouteOf_23 (pl_a10 hp) (by omega) (by decide) rfl ?_
        refine mw_top (x' := (P 11 i)) (hP 11 i (by decide)) ?_
        refine mw_iload_n 2 dX8_setRouteOf_24 rfl ?_
        refine mw_icmp_ne (tgt := 40) dX8_setRouteOf_25 (by decide) (fun c25 => ?_) (fun c25 => ?_)
        · refine mw_iinc 0 (nI (i + 1)) [(2, .int (nI (i + 1))), (0, .ref s), (1, .int g)] dX8_setRouteOf_40 rfl (nI_1 _) (Nat.le_of_ble_eq_true rfl) rfl ?_
          refine mw_goto (tgt := 2) dX8_setRouteOf_43 (by decide) ?_
          refine ih2 _ ?_ ?_ ?_
          · first | omega | rfl | assumption | (simp_all [bo]; done)
          · rw [ha, ff_step (by omega)]; simp_all
          · omega
        · refine mw_aload_n 1 dX8_setRouteOf_28 rfl ?_
          refine mw_getr 8 8 dX8_setRouteOf_29 fl_X8_33 (by decide) (by decide) rfl (sa_o hs) (sa_r8 hs) ?_
          refine mw_iload_n 0 dX8_setRouteOf_32 rfl ?_
          refine mw_iaN i dX8_setRouteOf_33 (sa_a8 hs) (by omega) (by decide) rfl ?_
          refine mw_top (x' := (V 1 i)) (hV 1 i (by decide)) ?_
          refine mw_iconst (v := 1) dX8_setRouteOf_34 rfl ?_
          refine mw_icmp_ne (tgt := 40) dX8_setRouteOf_35 (by decide) (fun c35 => ?_) (fun c35 => ?_)
          · refine mw_iinc 0 (nI (i + 1)) [(2, .int (nI (i + 1))), (0, .ref s), (1, .int g)] dX8_setRouteOf_40 rfl (nI_1 _) (Nat.le_of_ble_eq_true rfl) rfl ?_
            refine mw_goto (tgt := 2) dX8_setRouteOf_43 (by decide) ?_
            refine ih2 _ ?_ ?_ ?_
            · first | omega | rfl | assumption | (simp_all [bo]; done)
            · rw [ha, ff_step (by omega)]; simp_all
            · omega
          · refine mw_iload_n 0 dX8_setRouteOf_38 rfl ?_
            refine mw_ireturn dX8_setRouteOf_39 rfl rfl ⟨rfl, rfl⟩ ?_
            exact ⟨by rw [ha, ff_step (by omega)]; simp_all, rfl⟩
  refine L2 _ 0 ?_ ?_ (Nat.lt_succ_self _)
  · first | omega | rfl | assumption | (simp_all [bo]; done)
  · rfl
def s_trainsOut (P V : m_V) : Int32 := bo (fun t => decide (V 4 t = -1)) (ct P 6)
set_option maxRecDepth 100000 in
set_option maxHeartbeats 4000000 in
theorem c_X8_trainsOut (d : Nat) (h : m_H) (s : Nat) (V P : m_V) (hs : isState h.2.2 s) (hp : isPlan h.2.2 4) (hV : blI h s 7 V) (hP : blI h 4 21 P) (hN : okP P)  : MC yX8_trainsOut cX8_trainsOut 3 (some .int) (d + 1) 0 0 [.ref s] h (m_r (.int (s_trainsOut P V)) h) := by
  obtain ⟨e6, g6⟩ := hN.2.2.2.2.2
  refine mc_of (by decide +kernel) (Nat.le_of_ble_eq_true rfl) ?_
  show MW (yX8_trainsOut.cls, cX8_trainsOut, 3, (some .int), yX8_trainsOut.name, d + 1, 0, 0) 0 (0, 0) [(0, .ref s)] [] h _
  refine mw_iconst (v := 0) dX8_trainsOut_0 rfl ?_
  refine mw_istore_n [(1, .int 0), (0, .ref s)] dX8_trainsOut_1 (Nat.le_of_ble_eq_true rfl) rfl ?_
  refine mw_iconst (v := 0) dX8_trainsOut_2 rfl ?_
  refine mw_istore_n [(2, .int 0), (1, .int 0), (0, .ref s)] dX8_trainsOut_3 (Nat.le_of_ble_eq_true rfl) rfl ?_
  have L4 : ∀ (m4 : Nat) (i : Nat) (acc : Int32), (i ≤ ct P 6) → (acc = bo (fun t => decide (V 4 t = -1)) i) → ct P 6 - i < m4 → MW (yX8_trainsOut.cls, cX8_trainsOut, 3, (some .int), yX8_trainsOut.name, d + 1, 0, 0) 4 (0, 0) [(2, .int (nI i)), (1, .int acc), (0, .ref s)] [] h (m_r (.int (s_trainsOut P V)) h) := by
    intro m4
    induction m4 with
    | zero => intro i acc _ _ hm4; exact absurd hm4 (Nat.not_lt_zero _)
    | succ m4 ih4 =>
      intro i acc hi ha hm4
      refine mw_iload_n 0 dX8_trainsOut_4 rfl ?_
      refine mw_aload_n 2 dX8_trainsOut_5 rfl ?_
      refine mw_getr 8 0 dX8_trainsOut_6 fl_X8_52 (by decide) (by decide) rfl (sa_o hs) (sa_r0 hs) ?_
      refine mw_getr 5 0 dX8_trainsOut_9 fl_X8_71 (by decide) (by decide) rfl (pl_o hp) (pl_r0 hp) ?_
      refine mw_bipush (v := 6) dX8_trainsOut_12 (by decide) ?_
      refine mw_iaN 6 dX8_trainsOut_14 (pl_a0 hp) (by decide) (by decide) (by decide) ?_
      refine mw_top (x' := (nI (ct P 6))) ((hP 1 6 (by decide)).trans e6) ?_
      refine mw_icmp_ge (tgt := 40) dX8_trainsOut_15 (by decide) (fun c => ?_) (fun c => ?_)
      · have c := (nI_leI (by omega) (by omega)).mp c
        refine mw_iload_n 1 dX8_trainsOut_40 rfl ?_
        refine mw_ireturn dX8_trainsOut_41 rfl rfl ⟨rfl, rfl⟩ ?_
        exact ⟨by rw [ha, show i = ct P 6 by omega]; rfl, rfl⟩
      · have c := mt (nI_leI (by omega) (by omega)).mpr c
        refine mw_aload_n 2 dX8_trainsOut_18 rfl ?_
        refine mw_getr 8 11 dX8_trainsOut_19 fl_X8_43 (by decide) (by decide) rfl (sa_o hs) (sa_r11 hs) ?_
        refine mw_iload_n 0 dX8_trainsOut_22 rfl ?_
        refine mw_iaN i dX8_trainsOut_23 (sa_a11 hs) (by omega) (by decide) rfl ?_
        refine mw_top (x' := (V 4 i)) (hV 4 i (by decide)) ?_
        refine mw_iconst (v := -1) dX8_trainsOut_24 rfl ?_
        refine mw_icmp_ne (tgt := 34) dX8_trainsOut_25 (by decide) (fun c25 => ?_) (fun c25 => ?_)
        · refine mw_iinc 0 (nI (i + 1)) [(2, .int (nI (i + 1))), (1, .int acc), (0, .ref s)] dX8_trainsOut_34 rfl (nI_1 _) (Nat.le_of_ble_eq_true rfl) rfl ?_
          refine mw_goto (tgt := 4) dX8_trainsOut_37 (by decide) ?_
          refine ih4 _ _ ?_ ?_ ?_
          · first | omega | rfl | assumption | (simp_all [bo]; done)
          · first | (simp_all [bo, lo]; done)
          · omega
        · refine mw_iload_n 1 dX8_trainsOut_28 rfl ?_
          refine mw_iconst (v := 1) dX8_trainsOut_29 rfl ?_
          refine mw_iload_n 0 dX8_trainsOut_30 rfl ?_
          refine mw_ishl dX8_trainsOut_31 ?_
          refine mw_ior dX8_trainsOut_32 ?_
          refine mw_istore_n [(1, .int (acc ||| (1 <<< ((nI i) &&& 31)))), (2, .int (nI i)), (0, .ref s)] dX8_trainsOut_33 (Nat.le_of_ble_eq_true rfl) rfl ?_
          refine mw_iinc 1 (nI (i + 1)) [(2, .int (nI (i + 1))), (1, .int (acc ||| (1 <<< ((nI i) &&& 31)))), (0, .ref s)] dX8_trainsOut_34 rfl (nI_1 _) (Nat.le_of_ble_eq_true rfl) rfl ?_
          refine mw_goto (tgt := 4) dX8_trainsOut_37 (by decide) ?_
          refine ih4 _ _ ?_ ?_ ?_
          · first | omega | rfl | assumption | (simp_all [bo]; done)
          · first | (simp_all [bo, lo]; done)
          · omega
  refine L4 _ 0 0 ?_ ?_ (Nat.lt_succ_self _)
  · first | omega | rfl | assumption | (simp_all [bo]; done)
  · rfl
def s_waitedByAll (P V : m_V) : Int32 := lo (fun t a => a + V 6 t) (ct P 6) 0
set_option maxRecDepth 100000 in
set_option maxHeartbeats 4000000 in
theorem c_X8_waitedByAll (d : Nat) (h : m_H) (s : Nat) (V P : m_V) (hs : isState h.2.2 s) (hp : isPlan h.2.2 4) (hV : blI h s 7 V) (hP : blI h 4 21 P) (hN : okP P)  : MC yX8_waitedByAll cX8_waitedByAll 3 (some .int) (d + 1) 0 0 [.ref s] h (m_r (.int (s_waitedByAll P V)) h) := by
  obtain ⟨e6, g6⟩ := hN.2.2.2.2.2
  refine mc_of (by decide +kernel) (Nat.le_of_ble_eq_true rfl) ?_
  show MW (yX8_waitedByAll.cls, cX8_waitedByAll, 3, (some .int), yX8_waitedByAll.name, d + 1, 0, 0) 0 (0, 0) [(0, .ref s)] [] h _
  refine mw_iconst (v := 0) dX8_waitedByAll_0 rfl ?_
  refine mw_istore_n [(1, .int 0), (0, .ref s)] dX8_waitedByAll_1 (Nat.le_of_ble_eq_true rfl) rfl ?_
  refine mw_iconst (v := 0) dX8_waitedByAll_2 rfl ?_
  refine mw_istore_n [(2, .int 0), (1, .int 0), (0, .ref s)] dX8_waitedByAll_3 (Nat.le_of_ble_eq_true rfl) rfl ?_
  have L4 : ∀ (m4 : Nat) (i : Nat) (acc : Int32), (i ≤ ct P 6) → (acc = lo (fun t a => a + V 6 t) i 0) → ct P 6 - i < m4 → MW (yX8_waitedByAll.cls, cX8_waitedByAll, 3, (some .int), yX8_waitedByAll.name, d + 1, 0, 0) 4 (0, 0) [(2, .int (nI i)), (1, .int acc), (0, .ref s)] [] h (m_r (.int (s_waitedByAll P V)) h) := by
    intro m4
    induction m4 with
    | zero => intro i acc _ _ hm4; exact absurd hm4 (Nat.not_lt_zero _)
    | succ m4 ih4 =>
      intro i acc hi ha hm4
      refine mw_iload_n 0 dX8_waitedByAll_4 rfl ?_
      refine mw_aload_n 2 dX8_waitedByAll_5 rfl ?_
      refine mw_getr 8 0 dX8_waitedByAll_6 fl_X8_52 (by decide) (by decide) rfl (sa_o hs) (sa_r0 hs) ?_
      refine mw_getr 5 0 dX8_waitedByAll_9 fl_X8_71 (by decide) (by decide) rfl (pl_o hp) (pl_r0 hp) ?_
      refine mw_bipush (v := 6) dX8_waitedByAll_12 (by decide) ?_
      refine mw_iaN 6 dX8_waitedByAll_14 (pl_a0 hp) (by decide) (by decide) (by decide) ?_
      refine mw_top (x' := (nI (ct P 6))) ((hP 1 6 (by decide)).trans e6) ?_
      refine mw_icmp_ge (tgt := 33) dX8_waitedByAll_15 (by decide) (fun c => ?_) (fun c => ?_)
      · have c := (nI_leI (by omega) (by omega)).mp c
        refine mw_iload_n 1 dX8_waitedByAll_33 rfl ?_
        refine mw_ireturn dX8_waitedByAll_34 rfl rfl ⟨rfl, rfl⟩ ?_
        exact ⟨by rw [ha, show i = ct P 6 by omega]; rfl, rfl⟩
      · have c := mt (nI_leI (by omega) (by omega)).mpr c
        refine mw_iload_n 1 dX8_waitedByAll_18 rfl ?_
        refine mw_aload_n 2 dX8_waitedByAll_19 rfl ?_
        refine mw_getr 8 13 dX8_waitedByAll_20 fl_X8_49 (by decide) (by decide) rfl (sa_o hs) (sa_r13 hs) ?_
        refine mw_iload_n 0 dX8_waitedByAll_23 rfl ?_
        refine mw_iaN i dX8_waitedByAll_24 (sa_a13 hs) (by omega) (by decide) rfl ?_
        refine mw_top (x' := (V 6 i)) (hV 6 i (by decide)) ?_
        refine mw_iadd dX8_waitedByAll_25 ?_
        refine mw_istore_n [(1, .int (acc + (V 6 i))), (2, .int (nI i)), (0, .ref s)] dX8_waitedByAll_26 (Nat.le_of_ble_eq_true rfl) rfl ?_
        refine mw_iinc 1 (nI (i + 1)) [(2, .int (nI (i + 1))), (1, .int (acc + (V 6 i))), (0, .ref s)] dX8_waitedByAll_27 rfl (nI_1 _) (Nat.le_of_ble_eq_true rfl) rfl ?_
        refine mw_goto (tgt := 4) dX8_waitedByAll_30 (by decide) ?_
        refine ih4 _ _ ?_ ?_ ?_
        · first | omega | rfl | assumption | (simp_all [bo]; done)
        · first | (simp_all [bo, lo]; done)
        · omega
  refine L4 _ 0 0 ?_ ?_ (Nat.lt_succ_self _)
  · first | omega | rfl | assumption | (simp_all [bo]; done)
  · rfl
def s_pointsAgainst (P V : m_V) (r : Nat) : Int32 := (P 15 r &&& V 0 3) ||| (P 16 r &&& (V 0 3 ^^^ -1))
set_option maxRecDepth 100000 in
set_option maxHeartbeats 4000000 in
theorem c_X8_pointsAgainst (d : Nat) (h : m_H) (s : Nat) (V P : m_V) (hs : isState h.2.2 s) (hp : isPlan h.2.2 4) (hV : blI h s 7 V) (hP : blI h 4 21 P) (hN : okP P) (r : Nat) (hr : r < 10) : MC yX8_pointsAgainst cX8_pointsAgainst 2 (some .int) (d + 1) 0 0 [.ref s, .int (nI r)] h (m_r (.int (s_pointsAgainst P V r)) h) := by
  refine mc_of (by decide +kernel) (Nat.le_of_ble_eq_true rfl) ?_
  show MW (yX8_pointsAgainst.cls, cX8_pointsAgainst, 2, (some .int), yX8_pointsAgainst.name, d + 1, 0, 0) 0 (0, 0) [(0, .ref s), (1, .int (nI r))] [] h _
  refine mw_aload_n 0 dX8_pointsAgainst_0 rfl ?_
  refine mw_getr 8 0 dX8_pointsAgainst_1 fl_X8_52 (by decide) (by decide) rfl (sa_o hs) (sa_r0 hs) ?_
  refine mw_getr 5 14 dX8_pointsAgainst_4 fl_X8_81 (by decide) (by decide) rfl (pl_o hp) (pl_r14 hp) ?_
  refine mw_iload_n 1 dX8_pointsAgainst_7 rfl ?_
  refine mw_iaN r dX8_pointsAgainst_8 (pl_a14 hp) (by omega) (by decide) rfl ?_
  refine mw_top (x' := (P 15 r)) (hP 15 r (by decide)) ?_
  refine mw_aload_n 0 dX8_pointsAgainst_9 rfl ?_
  refine mw_geti 8 3 dX8_pointsAgainst_10 fl_X8_18 (by decide) (by decide) rfl (sa_o hs) ?_
  refine mw_top (x' := (V 0 3)) (hV 0 3 (by decide)) ?_
  refine mw_iand dX8_pointsAgainst_13 ?_
  refine mw_aload_n 0 dX8_pointsAgainst_14 rfl ?_
  refine mw_getr 8 0 dX8_pointsAgainst_15 fl_X8_52 (by decide) (by decide) rfl (sa_o hs) (sa_r0 hs) ?_
  refine mw_getr 5 15 dX8_pointsAgainst_18 fl_X8_84 (by decide) (by decide) rfl (pl_o hp) (pl_r15 hp) ?_
  refine mw_iload_n 1 dX8_pointsAgainst_21 rfl ?_
  refine mw_iaN r dX8_pointsAgainst_22 (pl_a15 hp) (by omega) (by decide) rfl ?_
  refine mw_top (x' := (P 16 r)) (hP 16 r (by decide)) ?_
  refine mw_aload_n 0 dX8_pointsAgainst_23 rfl ?_
  refine mw_geti 8 3 dX8_pointsAgainst_24 fl_X8_18 (by decide) (by decide) rfl (sa_o hs) ?_
  refine mw_top (x' := (V 0 3)) (hV 0 3 (by decide)) ?_
  refine mw_iconst (v := -1) dX8_pointsAgainst_27 rfl ?_
  refine mw_ixor dX8_pointsAgainst_28 ?_
  refine mw_iand dX8_pointsAgainst_29 ?_
  refine mw_ior dX8_pointsAgainst_30 ?_
  refine mw_ireturn dX8_pointsAgainst_31 rfl rfl ⟨rfl, rfl⟩ ?_
  exact ⟨rfl, rfl⟩
def s_barring (P : m_V) (r : Nat) : Int32 := P 17 r ||| (p_routesOf P (P 11 r) &&& ((1 <<< (nI r &&& 31)) ^^^ -1))
set_option maxRecDepth 100000 in
set_option maxHeartbeats 4000000 in
theorem c_X8_barring (d : Nat) (h : m_H) (s : Nat) (V P : m_V) (hs : isState h.2.2 s) (hp : isPlan h.2.2 4) (hV : blI h s 7 V) (hP : blI h 4 21 P) (hN : okP P) (r : Nat) (hr : r < 10) : MC yX8_barring cX8_barring 3 (some .int) (d + 2) 0 0 [.ref s, .int (nI r)] h (m_r (.int (s_barring P r)) h) := by
  refine mc_of (by decide +kernel) (Nat.le_of_ble_eq_true rfl) ?_
  show MW (yX8_barring.cls, cX8_barring, 3, (some .int), yX8_barring.name, d + 2, 0, 0) 0 (0, 0) [(0, .ref s), (1, .int (nI r))] [] h _
  refine mw_aload_n 0 dX8_barring_0 rfl ?_
  refine mw_getr 8 0 dX8_barring_1 fl_X8_52 (by decide) (by decide) rfl (sa_o hs) (sa_r0 hs) ?_
  refine mw_aload_n 0 dX8_barring_4 rfl ?_
  refine mw_getr 8 0 dX8_barring_5 fl_X8_52 (by decide) (by decide) rfl (sa_o hs) (sa_r0 hs) ?_
  refine mw_getr 5 10 dX8_barring_8 fl_X8_78 (by decide) (by decide) rfl (pl_o hp) (pl_r10 hp) ?_
  refine mw_iload_n 1 dX8_barring_11 rfl ?_
  refine mw_iaN r dX8_barring_12 (pl_a10 hp) (by omega) (by decide) rfl ?_
  refine mw_top (x' := (P 11 r)) (hP 11 r (by decide)) ?_
  refine mw_cV (rest := []) [.int (P 11 r)] (c_X5_routesOf d h 4 P hp hP hN _) mY_X5_routesOf dX8_barring_13 ml_X8_87 (pl_o hp) rfl rfl (Nat.le_of_ble_eq_true rfl) ⟨Nat.le_refl _, Nat.le_refl _⟩ rfl ?_
  refine mw_iconst (v := 1) dX8_barring_16 rfl ?_
  refine mw_iload_n 1 dX8_barring_17 rfl ?_
  refine mw_ishl dX8_barring_18 ?_
  refine mw_iconst (v := -1) dX8_barring_19 rfl ?_
  refine mw_ixor dX8_barring_20 ?_
  refine mw_iand dX8_barring_21 ?_
  refine mw_istore_n [(2, .int ((p_routesOf P (P 11 r)) &&& ((1 <<< ((nI r) &&& 31)) ^^^ (-1)))), (0, .ref s), (1, .int (nI r))] dX8_barring_22 (Nat.le_of_ble_eq_true rfl) rfl ?_
  refine mw_aload_n 1 dX8_barring_23 rfl ?_
  refine mw_getr 8 0 dX8_barring_24 fl_X8_52 (by decide) (by decide) rfl (sa_o hs) (sa_r0 hs) ?_
  refine mw_getr 5 16 dX8_barring_27 fl_X8_91 (by decide) (by decide) rfl (pl_o hp) (pl_r16 hp) ?_
  refine mw_iload_n 2 dX8_barring_30 rfl ?_
  refine mw_iaN r dX8_barring_31 (pl_a16 hp) (by omega) (by decide) rfl ?_
  refine mw_top (x' := (P 17 r)) (hP 17 r (by decide)) ?_
  refine mw_iload_n 0 dX8_barring_32 rfl ?_
  refine mw_ior dX8_barring_33 ?_
  refine mw_ireturn dX8_barring_34 rfl rfl ⟨rfl, rfl⟩ ?_
  exact ⟨rfl, rfl⟩
def s_whyNotSet (P V : m_V) (r : Nat) : Int32 := if ¬ V 1 r = 0 then 1 else if ¬ s_barring P r &&& s_notFree P V = 0 then 2 else if ¬ s_pointsAgainst P V r = 0 then 3 else if ¬ P 14 r &&& s_showing P V = 0 then 4 else if P 12 r = 0 then 5 else 0
set_option maxRecDepth 100000 in
set_option maxHeartbeats 4000000 in
theorem c_X8_whyNotSet (d : Nat) (h : m_H) (s : Nat) (V P : m_V) (hs : isState h.2.2 s) (hp : isPlan h.2.2 4) (hV : blI h s 7 V) (hP : blI h 4 21 P) (hN : okP P) (r : Nat) (hr : r < 10) : MC yX8_whyNotSet cX8_whyNotSet 2 (some .int) (d + 3) 0 0 [.ref s, .int (nI r)] h (m_r (.int (s_whyNotSet P V r)) h) := by
  refine mc_of (by decide +kernel) (Nat.le_of_ble_eq_true rfl) ?_
  show MW (yX8_whyNotSet.cls, cX8_whyNotSet, 2, (some .int), yX8_whyNotSet.name, d + 3, 0, 0) 0 (0, 0) [(0, .ref s), (1, .int (nI r))] [] h _
  refine mw_aload_n 0 dX8_whyNotSet_0 rfl ?_
  refine mw_getr 8 8 dX8_whyNotSet_1 fl_X8_33 (by decide) (by decide) rfl (sa_o hs) (sa_r8 hs) ?_
  refine mw_iload_n 1 dX8_whyNotSet_4 rfl ?_
  refine mw_iaN r dX8_whyNotSet_5 (sa_a8 hs) (by omega) (by decide) rfl ?_
  refine mw_top (x' := (V 1 r)) (hV 1 r (by decide)) ?_
  refine mw_if_eq (tgt := 11) dX8_whyNotSet_6 (by decide) (fun c6 => ?_) (fun c6 => ?_)
  · refine mw_aload_n 0 dX8_whyNotSet_11 rfl ?_
    refine mw_iload_n 1 dX8_whyNotSet_12 rfl ?_
    refine mw_cV (rest := []) [.int (nI r)] (c_X8_barring d h s V P hs hp hV hP hN r hr) mY_X8_barring dX8_whyNotSet_13 ml_X8_110 (sa_o hs) rfl rfl (Nat.le_of_ble_eq_true rfl) ⟨Nat.le_refl _, Nat.le_refl _⟩ rfl ?_
    refine mw_aload_n 0 dX8_whyNotSet_16 rfl ?_
    refine mw_cV (rest := [.int (s_barring P r)]) [] (c_X8_notFree (d + 1) h s V P hs hp hV hP hN) mY_X8_notFree dX8_whyNotSet_17 ml_X8_113 (sa_o hs) rfl rfl (Nat.le_of_ble_eq_true rfl) ⟨Nat.le_refl _, Nat.le_refl _⟩ rfl ?_
    refine mw_iand dX8_whyNotSet_20 ?_
    refine mw_if_eq (tgt := 26) dX8_whyNotSet_21 (by decide) (fun c21 => ?_) (fun c21 => ?_)
    · refine mw_aload_n 0 dX8_whyNotSet_26 rfl ?_
      refine mw_iload_n 1 dX8_whyNotSet_27 rfl ?_
      refine mw_cV (rest := []) [.int (nI r)] (c_X8_pointsAgainst (d + 1) h s V P hs hp hV hP hN r hr) mY_X8_pointsAgainst dX8_whyNotSet_28 ml_X8_116 (sa_o hs) rfl rfl (Nat.le_of_ble_eq_true rfl) ⟨Nat.le_refl _, Nat.le_refl _⟩ rfl ?_
      refine mw_if_eq (tgt := 36) dX8_whyNotSet_31 (by decide) (fun c31 => ?_) (fun c31 => ?_)
      · refine mw_aload_n 0 dX8_whyNotSet_36 rfl ?_
        refine mw_getr 8 0 dX8_whyNotSet_37 fl_X8_52 (by decide) (by decide) rfl (sa_o hs) (sa_r0 hs) ?_
        refine mw_getr 5 13 dX8_whyNotSet_40 fl_X8_119 (by decide) (by decide) rfl (pl_o hp) (pl_r13 hp) ?_
        refine mw_iload_n 1 dX8_whyNotSet_43 rfl ?_
        refine mw_iaN r dX8_whyNotSet_44 (pl_a13 hp) (by omega) (by decide) rfl ?_
        refine mw_top (x' := (P 14 r)) (hP 14 r (by decide)) ?_
        refine mw_aload_n 0 dX8_whyNotSet_45 rfl ?_
        refine mw_cV (rest := [.int (P 14 r)]) [] (c_X8_showing d h s V P hs hp hV hP hN) mY_X8_showing dX8_whyNotSet_46 ml_X8_122 (sa_o hs) rfl rfl (Nat.le_of_ble_eq_true rfl) ⟨Nat.le_refl _, Nat.le_refl _⟩ rfl ?_
        refine mw_iand dX8_whyNotSet_49 ?_
        refine mw_if_eq (tgt := 55) dX8_whyNotSet_50 (by decide) (fun c50 => ?_) (fun c50 => ?_)
        · refine mw_aload_n 0 dX8_whyNotSet_55 rfl ?_
          refine mw_getr 8 0 dX8_whyNotSet_56 fl_X8_52 (by decide) (by decide) rfl (sa_o hs) (sa_r0 hs) ?_
          refine mw_getr 5 11 dX8_whyNotSet_59 fl_X8_125 (by decide) (by decide) rfl (pl_o hp) (pl_r11 hp) ?_
          refine mw_iload_n 1 dX8_whyNotSet_62 rfl ?_
          refine mw_iaN r dX8_whyNotSet_63 (pl_a11 hp) (by omega) (by decide) rfl ?_
          refine mw_top (x' := (P 12 r)) (hP 12 r (by decide)) ?_
          refine mw_if_ne (tgt := 71) dX8_whyNotSet_64 (by decide) (fun c64 => ?_) (fun c64 => ?_)
          · refine mw_iconst (v := 0) dX8_whyNotSet_71 rfl ?_
            refine mw_ireturn dX8_whyNotSet_72 rfl rfl ⟨rfl, rfl⟩ ?_
            exact ⟨by simp_all [s_whyNotSet], rfl⟩
          · refine mw_iconst (v := 5) dX8_whyNotSet_67 rfl ?_
            refine mw_goto (tgt := 72) dX8_whyNotSet_68 (by decide) ?_
            refine mw_ireturn dX8_whyNotSet_72 rfl rfl ⟨rfl, rfl⟩ ?_
            exact ⟨by simp_all [s_whyNotSet], rfl⟩
        · refine mw_iconst (v := 4) dX8_whyNotSet_53 rfl ?_
          refine mw_ireturn dX8_whyNotSet_54 rfl rfl ⟨rfl, rfl⟩ ?_
          exact ⟨by simp_all [s_whyNotSet], rfl⟩
      · refine mw_iconst (v := 3) dX8_whyNotSet_34 rfl ?_
        refine mw_ireturn dX8_whyNotSet_35 rfl rfl ⟨rfl, rfl⟩ ?_
        exact ⟨by simp_all [s_whyNotSet], rfl⟩
    · refine mw_iconst (v := 2) dX8_whyNotSet_24 rfl ?_
      refine mw_ireturn dX8_whyNotSet_25 rfl rfl ⟨rfl, rfl⟩ ?_
      exact ⟨by simp_all [s_whyNotSet], rfl⟩
  · refine mw_iconst (v := 1) dX8_whyNotSet_9 rfl ?_
    refine mw_ireturn dX8_whyNotSet_10 rfl rfl ⟨rfl, rfl⟩ ?_
    exact ⟨by simp_all [s_whyNotSet], rfl⟩
def s_isApproached (P V : m_V) (g : Nat) : Bool := an (fun t => decide (V 4 t = P 9 g ∧ P 20 t = P 10 g ∧ (V 0 6 >>> (nI t &&& 31)) &&& 1 = 0)) (ct P 6)
set_option maxRecDepth 100000 in
set_option maxHeartbeats 4000000 in
theorem c_X8_isApproached (d : Nat) (h : m_H) (s : Nat) (V P : m_V) (hs : isState h.2.2 s) (hp : isPlan h.2.2 4) (hV : blI h s 7 V) (hP : blI h 4 21 P) (hN : okP P) (g : Nat) (hg : g < 8) : MC yX8_isApproached cX8_isApproached 3 (some .boolean) (d + 1) 0 0 [.ref s, .int (nI g)] h (m_r (.int (b2 (s_isApproached P V g))) h) := by
  obtain ⟨e6, g6⟩ := hN.2.2.2.2.2
  refine mc_of (by decide +kernel) (Nat.le_of_ble_eq_true rfl) ?_
  show MW (yX8_isApproached.cls, cX8_isApproached, 3, (some .boolean), yX8_isApproached.name, d + 1, 0, 0) 0 (0, 0) [(0, .ref s), (1, .int (nI g))] [] h _
  refine mw_iconst (v := 0) dX8_isApproached_0 rfl ?_
  refine mw_istore_n [(2, .int 0), (0, .ref s), (1, .int (nI g))] dX8_isApproached_1 (Nat.le_of_ble_eq_true rfl) rfl ?_
  have L2 : ∀ (m2 : Nat) (i : Nat), (i ≤ ct P 6) → (an (fun t => decide (V 4 t = P 9 g ∧ P 20 t = P 10 g ∧ (V 0 6 >>> (nI t &&& 31)) &&& 1 = 0)) i = false) → ct P 6 - i < m2 → MW (yX8_isApproached.cls, cX8_isApproached, 3, (some .boolean), yX8_isApproached.name, d + 1, 0, 0) 2 (0, 0) [(2, .int (nI i)), (0, .ref s), (1, .int (nI g))] [] h (m_r (.int (b2 (s_isApproached P V g))) h) := by
    intro m2
    induction m2 with
    | zero => intro i _ _ hm2; exact absurd hm2 (Nat.not_lt_zero _)
    | succ m2 ih2 =>
      intro i hi ha hm2
      refine mw_iload_n 0 dX8_isApproached_2 rfl ?_
      refine mw_aload_n 1 dX8_isApproached_3 rfl ?_
      refine mw_getr 8 0 dX8_isApproached_4 fl_X8_52 (by decide) (by decide) rfl (sa_o hs) (sa_r0 hs) ?_
      refine mw_getr 5 0 dX8_isApproached_7 fl_X8_71 (by decide) (by decide) rfl (pl_o hp) (pl_r0 hp) ?_
      refine mw_bipush (v := 6) dX8_isApproached_10 (by decide) ?_
      refine mw_iaN 6 dX8_isApproached_12 (pl_a0 hp) (by decide) (by decide) (by decide) ?_
      refine mw_top (x' := (nI (ct P 6))) ((hP 1 6 (by decide)).trans e6) ?_
      refine mw_icmp_ge (tgt := 74) dX8_isApproached_13 (by decide) (fun c => ?_) (fun c => ?_)
      · have c := (nI_leI (by omega) (by omega)).mp c
        refine mw_iconst (v := 0) dX8_isApproached_74 rfl ?_
        refine mw_ireturn dX8_isApproached_75 rfl rfl ⟨rfl, rfl⟩ ?_
        exact ⟨by rw [s_isApproached, show ct P 6 = i by omega, ha]; rfl, rfl⟩
      · have c := mt (nI_leI (by omega) (by omega)).mpr c
        refine mw_aload_n 1 dX8_isApproached_16 rfl ?_
        refine mw_getr 8 11 dX8_isApproached_17 fl_X8_43 (by decide) (by decide) rfl (sa_o hs) (sa_r11 hs) ?_
        refine mw_iload_n 0 dX8_isApproached_20 rfl ?_
        refine mw_iaN i dX8_isApproached_21 (sa_a11 hs) (by omega) (by decide) rfl ?_
        refine mw_top (x' := (V 4 i)) (hV 4 i (by decide)) ?_
        refine mw_aload_n 1 dX8_isApproached_22 rfl ?_
        refine mw_getr 8 0 dX8_isApproached_23 fl_X8_52 (by decide) (by decide) rfl (sa_o hs) (sa_r0 hs) ?_
        refine mw_getr 5 8 dX8_isApproached_26 fl_X8_135 (by decide) (by decide) rfl (pl_o hp) (pl_r8 hp) ?_
        refine mw_iload_n 2 dX8_isApproached_29 rfl ?_
        refine mw_iaN g dX8_isApproached_30 (pl_a8 hp) (by omega) (by decide) rfl ?_
        refine mw_top (x' := (P 9 g)) (hP 9 g (by decide)) ?_
        refine mw_icmp_ne (tgt := 68) dX8_isApproached_31 (by decide) (fun c31 => ?_) (fun c31 => ?_)
        · refine mw_iinc 0 (nI (i + 1)) [(2, .int (nI (i + 1))), (0, .ref s), (1, .int (nI g))] dX8_isApproached_68 rfl (nI_1 _) (Nat.le_of_ble_eq_true rfl) rfl ?_
          refine mw_goto (tgt := 2) dX8_isApproached_71 (by decide) ?_
          refine ih2 _ ?_ ?_ ?_
          · first | omega | rfl | assumption | (simp_all [bo]; done)
          · simp_all [an]
          · omega
        · refine mw_aload_n 1 dX8_isApproached_34 rfl ?_
          refine mw_getr 8 0 dX8_isApproached_35 fl_X8_52 (by decide) (by decide) rfl (sa_o hs) (sa_r0 hs) ?_
          refine mw_getr 5 19 dX8_isApproached_38 fl_X8_138 (by decide) (by decide) rfl (pl_o hp) (pl_r19 hp) ?_
          refine mw_iload_n 0 dX8_isApproached_41 rfl ?_
          refine mw_iaN i dX8_isApproached_42 (pl_a19 hp) (by omega) (by decide) rfl ?_
          refine mw_top (x' := (P 20 i)) (hP 20 i (by decide)) ?_
          refine mw_aload_n 1 dX8_isApproached_43 rfl ?_
          refine mw_getr 8 0 dX8_isApproached_44 fl_X8_52 (by decide) (by decide) rfl (sa_o hs) (sa_r0 hs) ?_
          refine mw_getr 5 9 dX8_isApproached_47 fl_X8_141 (by decide) (by decide) rfl (pl_o hp) (pl_r9 hp) ?_
          refine mw_iload_n 2 dX8_isApproached_50 rfl ?_
          refine mw_iaN g dX8_isApproached_51 (pl_a9 hp) (by omega) (by decide) rfl ?_
          refine mw_top (x' := (P 10 g)) (hP 10 g (by decide)) ?_
          refine mw_icmp_ne (tgt := 68) dX8_isApproached_52 (by decide) (fun c52 => ?_) (fun c52 => ?_)
          · refine mw_iinc 0 (nI (i + 1)) [(2, .int (nI (i + 1))), (0, .ref s), (1, .int (nI g))] dX8_isApproached_68 rfl (nI_1 _) (Nat.le_of_ble_eq_true rfl) rfl ?_
            refine mw_goto (tgt := 2) dX8_isApproached_71 (by decide) ?_
            refine ih2 _ ?_ ?_ ?_
            · first | omega | rfl | assumption | (simp_all [bo]; done)
            · simp_all [an]
            · omega
          · refine mw_aload_n 1 dX8_isApproached_55 rfl ?_
            refine mw_geti 8 6 dX8_isApproached_56 fl_X8_27 (by decide) (by decide) rfl (sa_o hs) ?_
            refine mw_top (x' := (V 0 6)) (hV 0 6 (by decide)) ?_
            refine mw_iload_n 0 dX8_isApproached_59 rfl ?_
            refine mw_ishr dX8_isApproached_60 ?_
            refine mw_iconst (v := 1) dX8_isApproached_61 rfl ?_
            refine mw_iand dX8_isApproached_62 ?_
            refine mw_if_ne (tgt := 68) dX8_isApproached_63 (by decide) (fun c63 => ?_) (fun c63 => ?_)
            · refine mw_iinc 0 (nI (i + 1)) [(2, .int (nI (i + 1))), (0, .ref s), (1, .int (nI g))] dX8_isApproached_68 rfl (nI_1 _) (Nat.le_of_ble_eq_true rfl) rfl ?_
              refine mw_goto (tgt := 2) dX8_isApproached_71 (by decide) ?_
              refine ih2 _ ?_ ?_ ?_
              · first | omega | rfl | assumption | (simp_all [bo]; done)
              · simp_all [an]
              · omega
            · refine mw_iconst (v := 1) dX8_isApproached_66 rfl ?_
              refine mw_ireturn dX8_isApproached_67 rfl rfl ⟨rfl, rfl⟩ ?_
              exact ⟨by rw [s_isApproached, an_true (i := i) (by omega) (by simp_all)]; rfl, rfl⟩
  refine L2 _ 0 ?_ ?_ (Nat.lt_succ_self _)
  · first | omega | rfl | assumption | (simp_all [bo]; done)
  · rfl
def s_freeBy (P V : m_V) : Int32 := bo (fun r => decide (V 1 r = 1) && !s_isApproached P V (P 11 r).toNatClampNeg) (ct P 4)
set_option maxRecDepth 100000 in
set_option maxHeartbeats 4000000 in
theorem c_X8_freeByPuttingBack (d : Nat) (h : m_H) (s : Nat) (V P : m_V) (hs : isState h.2.2 s) (hp : isPlan h.2.2 4) (hV : blI h s 7 V) (hP : blI h 4 21 P) (hN : okP P) (hG : ∀ r, r < ct P 4 → ∃ g, P 11 r = nI g ∧ g < 8) : MC yX8_freeByPuttingBack cX8_freeByPuttingBack 3 (some .int) (d + 2) 0 0 [.ref s] h (m_r (.int (s_freeBy P V)) h) := by
  obtain ⟨e4, g4⟩ := hN.2.2.2.2.1
  refine mc_of (by decide +kernel) (Nat.le_of_ble_eq_true rfl) ?_
  show MW (yX8_freeByPuttingBack.cls, cX8_freeByPuttingBack, 3, (some .int), yX8_freeByPuttingBack.name, d + 2, 0, 0) 0 (0, 0) [(0, .ref s)] [] h _
  refine mw_iconst (v := 0) dX8_freeByPuttingBack_0 rfl ?_
  refine mw_istore_n [(1, .int 0), (0, .ref s)] dX8_freeByPuttingBack_1 (Nat.le_of_ble_eq_true rfl) rfl ?_
  refine mw_iconst (v := 0) dX8_freeByPuttingBack_2 rfl ?_
  refine mw_istore_n [(2, .int 0), (1, .int 0), (0, .ref s)] dX8_freeByPuttingBack_3 (Nat.le_of_ble_eq_true rfl) rfl ?_
  have L4 : ∀ (m4 : Nat) (i : Nat) (acc : Int32), (i ≤ ct P 4) → (acc = bo (fun r => decide (V 1 r = 1) && !s_isApproached P V (P 11 r).toNatClampNeg) i) → ct P 4 - i < m4 → MW (yX8_freeByPuttingBack.cls, cX8_freeByPuttingBack, 3, (some .int), yX8_freeByPuttingBack.name, d + 2, 0, 0) 4 (0, 0) [(2, .int (nI i)), (1, .int acc), (0, .ref s)] [] h (m_r (.int (s_freeBy P V)) h) := by
    intro m4
    induction m4 with
    | zero => intro i acc _ _ hm4; exact absurd hm4 (Nat.not_lt_zero _)
    | succ m4 ih4 =>
      intro i acc hi ha hm4
      refine mw_iload_n 0 dX8_freeByPuttingBack_4 rfl ?_
      refine mw_aload_n 2 dX8_freeByPuttingBack_5 rfl ?_
      refine mw_getr 8 0 dX8_freeByPuttingBack_6 fl_X8_52 (by decide) (by decide) rfl (sa_o hs) (sa_r0 hs) ?_
      refine mw_getr 5 0 dX8_freeByPuttingBack_9 fl_X8_71 (by decide) (by decide) rfl (pl_o hp) (pl_r0 hp) ?_
      refine mw_iconst (v := 4) dX8_freeByPuttingBack_12 rfl ?_
      refine mw_iaN 4 dX8_freeByPuttingBack_13 (pl_a0 hp) (by decide) (by decide) (by decide) ?_
      refine mw_top (x' := (nI (ct P 4))) ((hP 1 4 (by decide)).trans e4) ?_
      refine mw_icmp_ge (tgt := 55) dX8_freeByPuttingBack_14 (by decide) (fun c => ?_) (fun c => ?_)
      · have c := (nI_leI (by omega) (by omega)).mp c
        refine mw_iload_n 1 dX8_freeByPuttingBack_55 rfl ?_
        refine mw_ireturn dX8_freeByPuttingBack_56 rfl rfl ⟨rfl, rfl⟩ ?_
        exact ⟨by rw [ha, show i = ct P 4 by omega]; rfl, rfl⟩
      · have c := mt (nI_leI (by omega) (by omega)).mpr c
        refine mw_aload_n 2 dX8_freeByPuttingBack_17 rfl ?_
        refine mw_getr 8 8 dX8_freeByPuttingBack_18 fl_X8_33 (by decide) (by decide) rfl (sa_o hs) (sa_r8 hs) ?_
        refine mw_iload_n 0 dX8_freeByPuttingBack_21 rfl ?_
        refine mw_iaN i dX8_freeByPuttingBack_22 (sa_a8 hs) (by omega) (by decide) rfl ?_
        refine mw_top (x' := (V 1 i)) (hV 1 i (by decide)) ?_
        refine mw_iconst (v := 1) dX8_freeByPuttingBack_23 rfl ?_
        refine mw_icmp_ne (tgt := 49) dX8_freeByPuttingBack_24 (by decide) (fun c24 => ?_) (fun c24 => ?_)
        · refine mw_iinc 0 (nI (i + 1)) [(2, .int (nI (i + 1))), (1, .int acc), (0, .ref s)] dX8_freeByPuttingBack_49 rfl (nI_1 _) (Nat.le_of_ble_eq_true rfl) rfl ?_
          refine mw_goto (tgt := 4) dX8_freeByPuttingBack_52 (by decide) ?_
          refine ih4 _ _ ?_ ?_ ?_
          · first | omega | rfl | assumption | (simp_all [bo]; done)
          · first | (rw [bo, ← ha]; simp [*, nI_clamp (show g < 2 ^ 31 by omega)]; done) | (rw [bo, ← ha]; simp [*]; done)
          · omega
        · refine mw_aload_n 2 dX8_freeByPuttingBack_27 rfl ?_
          refine mw_aload_n 2 dX8_freeByPuttingBack_28 rfl ?_
          refine mw_getr 8 0 dX8_freeByPuttingBack_29 fl_X8_52 (by decide) (by decide) rfl (sa_o hs) (sa_r0 hs) ?_
          refine mw_getr 5 10 dX8_freeByPuttingBack_32 fl_X8_78 (by decide) (by decide) rfl (pl_o hp) (pl_r10 hp) ?_
          refine mw_iload_n 0 dX8_freeByPuttingBack_35 rfl ?_
          obtain ⟨g, hg, hg8⟩ := hG i (by omega)
          refine mw_iaN i dX8_freeByPuttingBack_36 (pl_a10 hp) (by omega) (by decide) rfl ?_
          refine mw_top (x' := (P 11 i)) (hP 11 i (by decide)) ?_
          refine mw_top (x' := (nI g)) hg ?_
          refine mw_cV (rest := []) [.int (nI g)] (c_X8_isApproached d h s V P hs hp hV hP hN g hg8) mY_X8_isApproached dX8_freeByPuttingBack_37 ml_X8_131 (sa_o hs) rfl rfl (Nat.le_of_ble_eq_true rfl) ⟨Nat.le_refl _, Nat.le_refl _⟩ rfl ?_
          refine mw_if_ne (tgt := 49) dX8_freeByPuttingBack_40 (by decide) (fun c40 => ?_) (fun c40 => ?_)
          · have c40 : s_isApproached P V g = true := by revert c40; cases s_isApproached P V g <;> simp [b2]
            refine mw_iinc 0 (nI (i + 1)) [(2, .int (nI (i + 1))), (1, .int acc), (0, .ref s)] dX8_freeByPuttingBack_49 rfl (nI_1 _) (Nat.le_of_ble_eq_true rfl) rfl ?_
            refine mw_goto (tgt := 4) dX8_freeByPuttingBack_52 (by decide) ?_
            refine ih4 _ _ ?_ ?_ ?_
            · first | omega | rfl | assumption | (simp_all [bo]; done)
            · first | (rw [bo, ← ha]; simp [*, nI_clamp (show g < 2 ^ 31 by omega)]; done) | (rw [bo, ← ha]; simp [*]; done)
            · omega
          · have c40 : s_isApproached P V g = false := by revert c40; cases s_isApproached P V g <;> simp [b2]
            refine mw_iload_n 1 dX8_freeByPuttingBack_43 rfl ?_
            refine mw_iconst (v := 1) dX8_freeByPuttingBack_44 rfl ?_
            refine mw_iload_n 0 dX8_freeByPuttingBack_45 rfl ?_
            refine mw_ishl dX8_freeByPuttingBack_46 ?_
            refine mw_ior dX8_freeByPuttingBack_47 ?_
            refine mw_istore_n [(1, .int (acc ||| (1 <<< ((nI i) &&& 31)))), (2, .int (nI i)), (0, .ref s)] dX8_freeByPuttingBack_48 (Nat.le_of_ble_eq_true rfl) rfl ?_
            refine mw_iinc 1 (nI (i + 1)) [(2, .int (nI (i + 1))), (1, .int (acc ||| (1 <<< ((nI i) &&& 31)))), (0, .ref s)] dX8_freeByPuttingBack_49 rfl (nI_1 _) (Nat.le_of_ble_eq_true rfl) rfl ?_
            refine mw_goto (tgt := 4) dX8_freeByPuttingBack_52 (by decide) ?_
            refine ih4 _ _ ?_ ?_ ?_
            · first | omega | rfl | assumption | (simp_all [bo]; done)
            · first | (rw [bo, ← ha]; simp [*, nI_clamp (show g < 2 ^ 31 by omega)]; done) | (rw [bo, ← ha]; simp [*]; done)
            · omega
  refine L4 _ 0 0 ?_ ?_ (Nat.lt_succ_self _)
  · first | omega | rfl | assumption | (simp_all [bo]; done)
  · rfl
