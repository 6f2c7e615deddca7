theorem ff_cases (P : Nat → Bool) : ∀ (m i : Nat), ff P i m = -1 ∨ ∃ q, i ≤ q ∧ q < i + m ∧ ff P i m = nI q ∧ P q = true := by
  intro m
  induction m with
  | zero => intro i; exact Or.inl rfl
  | succ m ih =>
    intro i
    by_cases c : P i = true
    · exact Or.inr ⟨i, by omega, by omega, by simp [ff, c], c⟩
    · rcases ih (i + 1) with e | ⟨q, h1, h2, h3, h4⟩
      · exact Or.inl (by simp [ff, c, e])
      · exact Or.inr ⟨q, by omega, by omega, by simp [ff, c, h3], h4⟩
theorem nI_m1 {q : Nat} (h : q < 2 ^ 31) : ¬ nI q = -1 := fun e => by
  have := congrArg Int32.toInt e
  rw [nI_toInt h] at this
  exact absurd this (by rw [show (-1 : Int32).toInt = -1 from rfl]; omega)
def s_gbs (P V : m_V) (g : Int32) : Int32 := if s_setRouteOf P V g = -1 then -2 else P 13 ((s_setRouteOf P V g).toNatClampNeg * 6)
def s_gbsV (P V : m_V) (t g : Int32) : m_V := if s_setRouteOf P V g = -1 then V else u2 (u2 V 1 (s_setRouteOf P V g).toNatClampNeg 2) 3 (s_setRouteOf P V g).toNatClampNeg t
set_option maxRecDepth 100000 in
set_option maxHeartbeats 4000000 in
theorem c_X8_goalBySignal (d : Nat) (h : m_H) (s : Nat) (V P : m_V) (SL : m_L) (hs : isState h.2.2 s) (hp : isPlan h.2.2 4) (hV : blI h s 7 V) (hP : blI h 4 21 P) (hN : okP P) (hSL : blJ h s 7 SL) (hd : 4 + 21 ≤ s) (t g : Int32) : MC yX8_goalBySignal cX8_goalBySignal 4 (some .int) (d + 2) 0 0 [.ref s, .int t, .int g] h (m_r (.int (s_gbs P V g)) (m_bk h s 7 (s_gbsV P V t g) SL)) := by
  obtain ⟨e4, g4⟩ := hN.2.2.2.2.1
  refine mc_of (by decide +kernel) (Nat.le_of_ble_eq_true rfl) ?_
  show MW (yX8_goalBySignal.cls, cX8_goalBySignal, 4, (some .int), yX8_goalBySignal.name, d + 2, 0, 0) 0 (0, 0) [(0, .ref s), (1, .int t), (2, .int g)] [] h _
  refine mw_hp (bk_self (n := 7) hV hSL) ?_
  refine mw_aload_n 0 dX8_goalBySignal_0 rfl ?_
  refine mw_iload_n 2 dX8_goalBySignal_1 rfl ?_
  refine mw_cV (rest := []) [.int g] (c_X8_setRouteOf d (m_bk h s 7 V SL) s _ P hs hp bk_I (bk_O hP (Or.inl hd)) hN g) mY_X8_setRouteOf dX8_goalBySignal_2 ml_X8_176 (sa_o hs) rfl rfl (Nat.le_of_ble_eq_true rfl) ⟨Nat.le_refl _, Nat.le_refl _⟩ rfl ?_
  refine mw_istore_n [(3, .int (s_setRouteOf P V g)), (0, .ref s), (1, .int t), (2, .int g)] dX8_goalBySignal_5 (Nat.le_of_ble_eq_true rfl) rfl ?_
  refine mw_iload_n 0 dX8_goalBySignal_6 rfl ?_
  refine mw_iconst (v := -1) dX8_goalBySignal_7 rfl ?_
  refine mw_icmp_ne (tgt := 14) dX8_goalBySignal_8 (by decide) (fun c8 => ?_) (fun c8 => ?_)
  · rcases ff_cases (fun r => decide (P 11 r = g ∧ V 1 r = 1)) (ct P 4) 0 with hq | ⟨q, -, hq2, hq, -⟩
    · exact absurd hq c8
    have hq : s_setRouteOf P V g = nI q := hq
    refine mw_aload_n 1 dX8_goalBySignal_14 rfl ?_
    refine mw_getr 8 8 dX8_goalBySignal_15 fl_X8_33 (by decide) (by decide) rfl (sa_o hs) (sa_r8 hs) ?_
    refine mw_iload_n 0 dX8_goalBySignal_18 rfl ?_
    refine mw_iconst (v := 2) dX8_goalBySignal_19 rfl ?_
    refine mw_isN q dX8_goalBySignal_20 (sa_a8 hs) (by omega) (by decide) hq ?_
    refine mw_hp (bk_si (j := 1) (by decide)) ?_
    refine mw_aload_n 1 dX8_goalBySignal_21 rfl ?_
    refine mw_getr 8 10 dX8_goalBySignal_22 fl_X8_40 (by decide) (by decide) rfl (sa_o hs) (sa_r10 hs) ?_
    refine mw_iload_n 0 dX8_goalBySignal_25 rfl ?_
    refine mw_iload_n 2 dX8_goalBySignal_26 rfl ?_
    refine mw_isN q dX8_goalBySignal_27 (sa_a10 hs) (by omega) (by decide) hq ?_
    refine mw_hp (bk_si (j := 3) (by decide)) ?_
    refine mw_aload_n 1 dX8_goalBySignal_28 rfl ?_
    refine mw_getr 8 0 dX8_goalBySignal_29 fl_X8_52 (by decide) (by decide) rfl (sa_o hs) (sa_r0 hs) ?_
    refine mw_iload_n 0 dX8_goalBySignal_32 rfl ?_
    refine mw_top (x' := nI q) hq ?_
    refine mw_iconst (v := 0) dX8_goalBySignal_33 rfl ?_
    refine mw_cV (rest := []) [.int (nI q), .int 0] (c_X5_sectionOf d (m_bk h s 7 (u2 (u2 V 1 q 2) 3 q t) SL) 4 P hp (bk_O hP (Or.inl hd)) hN q 0 (by omega) (by decide)) mY_X5_sectionOf dX8_goalBySignal_34 ml_X8_179 (pl_o hp) rfl rfl (Nat.le_of_ble_eq_true rfl) ⟨Nat.le_refl _, Nat.le_refl _⟩ rfl ?_
    refine mw_ireturn dX8_goalBySignal_37 rfl rfl ⟨rfl, rfl⟩ ?_
    exact ⟨by rw [s_gbs, if_neg c8, hq, nI_clamp (by omega)]; rfl, by rw [s_gbsV, if_neg c8, hq, nI_clamp (by omega)]⟩
  · refine mw_bipush (v := -2) dX8_goalBySignal_11 (by decide) ?_
    refine mw_ireturn dX8_goalBySignal_13 rfl rfl ⟨rfl, rfl⟩ ?_
    exact ⟨by rw [s_gbs, if_pos c8], by rw [s_gbsV, if_pos c8]⟩
def s_leadsNow (P V : m_V) (k : Nat) : Bool := decide (P 7 k = -1) || decide ((V 0 3 >>> (P 7 k &&& 31)) &&& 1 = P 8 k)
set_option maxRecDepth 100000 in
set_option maxHeartbeats 4000000 in
theorem c_X8_leadsNow (d : Nat) (h : m_H) (s : Nat) (V P : m_V) (hs : isState h.2.2 s) (hp : isPlan h.2.2 4) (hV : blI h s 7 V) (hP : blI h 4 21 P) (hN : okP P) (k : Nat) (hk : k < 16) : MC yX8_leadsNow cX8_leadsNow 3 (some .boolean) (d + 1) 0 0 [.ref s, .int (nI k)] h (m_r (.int (b2 (s_leadsNow P V k))) h) := by
  refine mc_of (by decide +kernel) (Nat.le_of_ble_eq_true rfl) ?_
  show MW (yX8_leadsNow.cls, cX8_leadsNow, 3, (some .boolean), yX8_leadsNow.name, d + 1, 0, 0) 0 (0, 0) [(0, .ref s), (1, .int (nI k))] [] h _
  refine mw_aload_n 0 dX8_leadsNow_0 rfl ?_
  refine mw_getr 8 0 dX8_leadsNow_1 fl_X8_52 (by decide) (by decide) rfl (sa_o hs) (sa_r0 hs) ?_
  refine mw_getr 5 6 dX8_leadsNow_4 fl_X8_189 (by decide) (by decide) rfl (pl_o hp) (pl_r6 hp) ?_
  refine mw_iload_n 1 dX8_leadsNow_7 rfl ?_
  refine mw_iaN k dX8_leadsNow_8 (pl_a6 hp) (by omega) (by decide) rfl ?_
  refine mw_top (x' := (P 7 k)) (hP 7 k (by decide)) ?_
  refine mw_istore_n [(2, .int (P 7 k)), (0, .ref s), (1, .int (nI k))] dX8_leadsNow_9 (Nat.le_of_ble_eq_true rfl) rfl ?_
  refine mw_iload_n 0 dX8_leadsNow_10 rfl ?_
  refine mw_iconst (v := -1) dX8_leadsNow_11 rfl ?_
  refine mw_icmp_eq (tgt := 35) dX8_leadsNow_12 (by decide) (fun c12 => ?_) (fun c12 => ?_)
  · refine mw_iconst (v := 1) dX8_leadsNow_35 rfl ?_
    refine mw_goto (tgt := 40) dX8_leadsNow_36 (by decide) ?_
    refine mw_ireturn dX8_leadsNow_40 rfl rfl ⟨rfl, rfl⟩ ?_
    exact ⟨by simp [s_leadsNow, b2, *], rfl⟩
  · refine mw_aload_n 1 dX8_leadsNow_15 rfl ?_
    refine mw_geti 8 3 dX8_leadsNow_16 fl_X8_18 (by decide) (by decide) rfl (sa_o hs) ?_
    refine mw_top (x' := (V 0 3)) (hV 0 3 (by decide)) ?_
    refine mw_iload_n 0 dX8_leadsNow_19 rfl ?_
    refine mw_ishr dX8_leadsNow_20 ?_
    refine mw_iconst (v := 1) dX8_leadsNow_21 rfl ?_
    refine mw_iand dX8_leadsNow_22 ?_
    refine mw_aload_n 1 dX8_leadsNow_23 rfl ?_
    refine mw_getr 8 0 dX8_leadsNow_24 fl_X8_52 (by decide) (by decide) rfl (sa_o hs) (sa_r0 hs) ?_
    refine mw_getr 5 7 dX8_leadsNow_27 fl_X8_192 (by decide) (by decide) rfl (pl_o hp) (pl_r7 hp) ?_
    refine mw_iload_n 2 dX8_leadsNow_30 rfl ?_
    refine mw_iaN k dX8_leadsNow_31 (pl_a7 hp) (by omega) (by decide) rfl ?_
    refine mw_top (x' := (P 8 k)) (hP 8 k (by decide)) ?_
    refine mw_icmp_ne (tgt := 39) dX8_leadsNow_32 (by decide) (fun c32 => ?_) (fun c32 => ?_)
    · refine mw_iconst (v := 0) dX8_leadsNow_39 rfl ?_
      refine mw_ireturn dX8_leadsNow_40 rfl rfl ⟨rfl, rfl⟩ ?_
      exact ⟨by simp [s_leadsNow, b2, *], rfl⟩
    · refine mw_iconst (v := 1) dX8_leadsNow_35 rfl ?_
      refine mw_goto (tgt := 40) dX8_leadsNow_36 (by decide) ?_
      refine mw_ireturn dX8_leadsNow_40 rfl rfl ⟨rfl, rfl⟩ ?_
      exact ⟨by simp [s_leadsNow, b2, *], rfl⟩
def s_gbtL (P V : m_V) (t : Nat) : Nat → Nat → Int32 → Int32
  | _, 0, w => w
  | k, m + 1, w => if p_leadsTo P k (V 4 t) (P 20 t) = -1 then s_gbtL P V t (k + 1) m w else if s_leadsNow P V k then p_leadsTo P k (V 4 t) (P 20 t) else s_gbtL P V t (k + 1) m (-2)
def s_gbt (P V : m_V) (t : Nat) : Int32 := s_gbtL P V t 0 (ct P 2) (-1)
theorem gbtL_step {P V : m_V} {t k n : Nat} {w : Int32} (h : k < n) : s_gbtL P V t k (n - k) w = if p_leadsTo P k (V 4 t) (P 20 t) = -1 then s_gbtL P V t (k + 1) (n - (k + 1)) w else if s_leadsNow P V k then p_leadsTo P k (V 4 t) (P 20 t) else s_gbtL P V t (k + 1) (n - (k + 1)) (-2) := by
  rw [show n - k = (n - (k + 1)) + 1 by omega, s_gbtL]
set_option maxRecDepth 100000 in
set_option maxHeartbeats 4000000 in
theorem c_X8_goalByTracks (d : Nat) (h : m_H) (s : Nat) (V P : m_V) (hs : isState h.2.2 s) (hp : isPlan h.2.2 4) (hV : blI h s 7 V) (hP : blI h 4 21 P) (hN : okP P) (t : Nat) (ht : t < 5) : MC yX8_goalByTracks cX8_goalByTracks 5 (some .int) (d + 2) 0 0 [.ref s, .int (nI t)] h (m_r (.int (s_gbt P V t)) h) := by
  obtain ⟨e2, g2⟩ := hN.2.2.1
  refine mc_of (by decide +kernel) (Nat.le_of_ble_eq_true rfl) ?_
  show MW (yX8_goalByTracks.cls, cX8_goalByTracks, 5, (some .int), yX8_goalByTracks.name, d + 2, 0, 0) 0 (0, 0) [(0, .ref s), (1, .int (nI t))] [] h _
  refine mw_iconst (v := -1) dX8_goalByTracks_0 rfl ?_
  refine mw_istore_n [(2, .int (-1)), (0, .ref s), (1, .int (nI t))] dX8_goalByTracks_1 (Nat.le_of_ble_eq_true rfl) rfl ?_
  refine mw_iconst (v := 0) dX8_goalByTracks_2 rfl ?_
  refine mw_istore_n [(3, .int 0), (2, .int (-1)), (0, .ref s), (1, .int (nI t))] dX8_goalByTracks_3 (Nat.le_of_ble_eq_true rfl) rfl ?_
  have L4 : ∀ (m4 : Nat) (i : Nat) (w : Int32), (i ≤ ct P 2) → (s_gbt P V t = s_gbtL P V t i (ct P 2 - i) w) → ct P 2 - i < m4 → MW (yX8_goalByTracks.cls, cX8_goalByTracks, 5, (some .int), yX8_goalByTracks.name, d + 2, 0, 0) 4 (0, 0) [(3, .int (nI i)), (2, .int w), (0, .ref s), (1, .int (nI t))] [] h (m_r (.int (s_gbt P V t)) h) := by
    intro m4
    induction m4 with
    | zero => intro i w _ _ hm4; exact absurd hm4 (Nat.not_lt_zero _)
    | succ m4 ih4 =>
      intro i w hi ha hm4
      refine mw_iload_n 0 dX8_goalByTracks_4 rfl ?_
      refine mw_aload_n 2 dX8_goalByTracks_5 rfl ?_
      refine mw_getr 8 0 dX8_goalByTracks_6 fl_X8_52 (by decide) (by decide) rfl (sa_o hs) (sa_r0 hs) ?_
      refine mw_getr 5 0 dX8_goalByTracks_9 fl_X8_71 (by decide) (by decide) rfl (pl_o hp) (pl_r0 hp) ?_
      refine mw_iconst (v := 2) dX8_goalByTracks_12 rfl ?_
      refine mw_iaN 2 dX8_goalByTracks_13 (pl_a0 hp) (by decide) (by decide) (by decide) ?_
      refine mw_top (x' := (nI (ct P 2))) ((hP 1 2 (by decide)).trans e2) ?_
      refine mw_icmp_ge (tgt := 68) dX8_goalByTracks_14 (by decide) (fun c => ?_) (fun c => ?_)
      · have c := (nI_leI (by omega) (by omega)).mp c
        refine mw_iload_n 1 dX8_goalByTracks_68 rfl ?_
        refine mw_ireturn dX8_goalByTracks_69 rfl rfl ⟨rfl, rfl⟩ ?_
        exact ⟨by rw [ha, show ct P 2 - i = 0 by omega]; rfl, rfl⟩
      · have c := mt (nI_leI (by omega) (by omega)).mpr c
        refine mw_aload_n 2 dX8_goalByTracks_17 rfl ?_
        refine mw_getr 8 0 dX8_goalByTracks_18 fl_X8_52 (by decide) (by decide) rfl (sa_o hs) (sa_r0 hs) ?_
        refine mw_iload_n 0 dX8_goalByTracks_21 rfl ?_
        refine mw_aload_n 2 dX8_goalByTracks_22 rfl ?_
        refine mw_getr 8 11 dX8_goalByTracks_23 fl_X8_43 (by decide) (by decide) rfl (sa_o hs) (sa_r11 hs) ?_
        refine mw_iload_n 3 dX8_goalByTracks_26 rfl ?_
        refine mw_iaN t dX8_goalByTracks_27 (sa_a11 hs) (by omega) (by decide) rfl ?_
        refine mw_top (x' := (V 4 t)) (hV 4 t (by decide)) ?_
        refine mw_aload_n 2 dX8_goalByTracks_28 rfl ?_
        refine mw_getr 8 0 dX8_goalByTracks_29 fl_X8_52 (by decide) (by decide) rfl (sa_o hs) (sa_r0 hs) ?_
        refine mw_getr 5 19 dX8_goalByTracks_32 fl_X8_138 (by decide) (by decide) rfl (pl_o hp) (pl_r19 hp) ?_
        refine mw_iload_n 3 dX8_goalByTracks_35 rfl ?_
        refine mw_iaN t dX8_goalByTracks_36 (pl_a19 hp) (by omega) (by decide) rfl ?_
        refine mw_top (x' := (P 20 t)) (hP 20 t (by decide)) ?_
        refine mw_cV (rest := []) [.int (nI i), .int (V 4 t), .int (P 20 t)] (c_X5_leadsTo d h 4 P hp hP hN i _ _ (by omega)) mY_X5_leadsTo dX8_goalByTracks_37 ml_X8_182 (pl_o hp) rfl rfl (Nat.le_of_ble_eq_true rfl) ⟨Nat.le_refl _, Nat.le_refl _⟩ rfl ?_
        refine mw_istore [(4, .int (p_leadsTo P i (V 4 t) (P 20 t))), (3, .int (nI i)), (2, .int w), (0, .ref s), (1, .int (nI t))] dX8_goalByTracks_40 (Nat.le_of_ble_eq_true rfl) rfl ?_
        refine mw_iload 0 dX8_goalByTracks_42 rfl ?_
        refine mw_iconst (v := -1) dX8_goalByTracks_44 rfl ?_
        refine mw_icmp_eq (tgt := 62) dX8_goalByTracks_45 (by decide) (fun c45 => ?_) (fun c45 => ?_)
        · refine mw_iinc 1 (nI (i + 1)) [(3, .int (nI (i + 1))), (4, .int (p_leadsTo P i (V 4 t) (P 20 t))), (2, .int w), (0, .ref s), (1, .int (nI t))] dX8_goalByTracks_62 rfl (nI_1 _) (Nat.le_of_ble_eq_true rfl) rfl ?_
          refine mw_goto (tgt := 4) dX8_goalByTracks_65 (by decide) ?_
          refine mw_sub [0, 2, 3, 4] rfl ?_
          refine ih4 _ _ ?_ ?_ ?_
          · first | omega | rfl | assumption | (simp_all [bo]; done)
          · first | (rw [ha, gbtL_step (by omega), if_pos c45]; done) | (rw [ha, gbtL_step (by omega), if_neg c45, c53]; rfl)
          · omega
        · refine mw_aload_n 3 dX8_goalByTracks_48 rfl ?_
          refine mw_iload_n 1 dX8_goalByTracks_49 rfl ?_
          refine mw_cV (rest := []) [.int (nI i)] (c_X8_leadsNow d h s V P hs hp hV hP hN i (by omega)) mY_X8_leadsNow dX8_goalByTracks_50 ml_X8_186 (sa_o hs) rfl rfl (Nat.le_of_ble_eq_true rfl) ⟨Nat.le_refl _, Nat.le_refl _⟩ rfl ?_
          refine mw_if_eq (tgt := 59) dX8_goalByTracks_53 (by decide) (fun c53 => ?_) (fun c53 => ?_)
          · have c53 : s_leadsNow P V i = false := by revert c53; cases s_leadsNow P V i <;> simp [b2]
            refine mw_bipush (v := -2) dX8_goalByTracks_59 (by decide) ?_
            refine mw_istore_n [(2, .int (-2)), (4, .int (p_leadsTo P i (V 4 t) (P 20 t))), (3, .int (nI i)), (0, .ref s), (1, .int (nI t))] dX8_goalByTracks_61 (Nat.le_of_ble_eq_true rfl) rfl ?_
            refine mw_iinc 2 (nI (i + 1)) [(3, .int (nI (i + 1))), (2, .int (-2)), (4, .int (p_leadsTo P i (V 4 t) (P 20 t))), (0, .ref s), (1, .int (nI t))] dX8_goalByTracks_62 rfl (nI_1 _) (Nat.le_of_ble_eq_true rfl) rfl ?_
            refine mw_goto (tgt := 4) dX8_goalByTracks_65 (by decide) ?_
            refine mw_sub [0, 1, 3, 4] rfl ?_
            refine ih4 _ _ ?_ ?_ ?_
            · first | omega | rfl | assumption | (simp_all [bo]; done)
            · first | (rw [ha, gbtL_step (by omega), if_pos c45]; done) | (rw [ha, gbtL_step (by omega), if_neg c45, c53]; rfl)
            · omega
          · have c53 : s_leadsNow P V i = true := by revert c53; cases s_leadsNow P V i <;> simp [b2]
            refine mw_iload 0 dX8_goalByTracks_56 rfl ?_
            refine mw_ireturn dX8_goalByTracks_58 rfl rfl ⟨rfl, rfl⟩ ?_
            exact ⟨by rw [ha, gbtL_step (by omega), if_neg c45, c53]; rfl, rfl⟩
  refine L4 _ 0 (-1) ?_ ?_ (Nat.lt_succ_self _)
  · first | omega | rfl | assumption | (simp_all [bo]; done)
  · rfl
def s_cr (P V : m_V) (t : Nat) (c : Int32) : Int32 := lo (fun k a => if V 4 k = c then a ||| (1 <<< (nI k &&& 31)) else a) (ct P 6) (V 0 6 ||| (1 <<< (nI t &&& 31)))
def s_crashV (P V : m_V) (t : Nat) (c : Int32) : m_V := u2 (u2 (u2 V 0 2 (V 0 2 + 1)) 0 6 (s_cr P V t c)) 0 7 (V 0 7 &&& (s_cr P V t c ^^^ -1))
set_option maxRecDepth 100000 in
set_option maxHeartbeats 4000000 in
theorem c_X8_crash (d : Nat) (h : m_H) (s : Nat) (V P : m_V) (SL : m_L) (hs : isState h.2.2 s) (hp : isPlan h.2.2 4) (hV : blI h s 7 V) (hP : blI h 4 21 P) (hN : okP P) (hSL : blJ h s 7 SL) (hd : 4 + 21 ≤ s) (t : Nat) (c : Int32) : MC yX8_crash cX8_crash 4 none (d + 1) 0 0 [.ref s, .int (nI t), .int c] h (m_rn (m_bk h s 7 (s_crashV P V t c) SL)) := by
  obtain ⟨e6, g6⟩ := hN.2.2.2.2.2
  refine mc_of (by decide +kernel) (Nat.le_of_ble_eq_true rfl) ?_
  show MW (yX8_crash.cls, cX8_crash, 4, none, yX8_crash.name, d + 1, 0, 0) 0 (0, 0) [(0, .ref s), (1, .int (nI t)), (2, .int c)] [] h _
  refine mw_hp (bk_self (n := 7) hV hSL) ?_
  refine mw_aload_n 0 dX8_crash_0 rfl ?_
  refine mw_dup dX8_crash_1 rfl ?_
  refine mw_geti 8 2 dX8_crash_2 fl_X8_15 (by decide) (by decide) rfl (sa_o hs) ?_
  refine mw_top (x' := (V 0 2)) (bk_i (j := 0) (by decide)) ?_
  refine mw_iconst (v := 1) dX8_crash_5 rfl ?_
  refine mw_iadd dX8_crash_6 ?_
  refine mw_puti 8 2 dX8_crash_7 fl_X8_15 (by decide) (by decide) rfl rfl (sa_o hs) ⟨rfl, rfl⟩ ?_
  refine mw_hp (bk_si (j := 0) (by decide)) ?_
  refine mw_aload_n 0 dX8_crash_10 rfl ?_
  refine mw_dup dX8_crash_11 rfl ?_
  refine mw_geti 8 6 dX8_crash_12 fl_X8_27 (by decide) (by decide) rfl (sa_o hs) ?_
  refine mw_top (x' := (V 0 6)) (bk_i (j := 0) (by decide)) ?_
  refine mw_iconst (v := 1) dX8_crash_15 rfl ?_
  refine mw_iload_n 1 dX8_crash_16 rfl ?_
  refine mw_ishl dX8_crash_17 ?_
  refine mw_ior dX8_crash_18 ?_
  refine mw_puti 8 6 dX8_crash_19 fl_X8_27 (by decide) (by decide) rfl rfl (sa_o hs) ⟨rfl, rfl⟩ ?_
  refine mw_hp (bk_si (j := 0) (by decide)) ?_
  refine mw_iconst (v := 0) dX8_crash_22 rfl ?_
  refine mw_istore_n [(3, .int 0), (0, .ref s), (1, .int (nI t)), (2, .int c)] dX8_crash_23 (Nat.le_of_ble_eq_true rfl) rfl ?_
  have L24 : ∀ (m24 : Nat) (i : Nat) (acc : Int32), (i ≤ ct P 6) → (acc = lo (fun k a => if V 4 k = c then a ||| (1 <<< (nI k &&& 31)) else a) i (V 0 6 ||| (1 <<< (nI t &&& 31)))) → ct P 6 - i < m24 → MW (yX8_crash.cls, cX8_crash, 4, none, yX8_crash.name, d + 1, 0, 0) 24 (0, 0) [(3, .int (nI i)), (0, .ref s), (1, .int (nI t)), (2, .int c)] [] (m_bk h s 7 (u2 (u2 V 0 2 (V 0 2 + 1)) 0 6 acc) SL) (m_rn (m_bk h s 7 (s_crashV P V t c) SL)) := by
    intro m24
    induction m24 with
    | zero => intro i acc _ _ hm24; exact absurd hm24 (Nat.not_lt_zero _)
    | succ m24 ih24 =>
      intro i acc hi ha hm24
      refine mw_iload_n 0 dX8_crash_24 rfl ?_
      refine mw_aload_n 1 dX8_crash_25 rfl ?_
      refine mw_getr 8 0 dX8_crash_26 fl_X8_52 (by decide) (by decide) rfl (sa_o hs) (sa_r0 hs) ?_
      refine mw_getr 5 0 dX8_crash_29 fl_X8_71 (by decide) (by decide) rfl (pl_o hp) (pl_r0 hp) ?_
      refine mw_bipush (v := 6) dX8_crash_32 (by decide) ?_
      refine mw_iaN 6 dX8_crash_34 (pl_a0 hp) (by decide) (by decide) (by decide) ?_
      refine mw_top (x' := (nI (ct P 6))) ((bk_o (j := 1) hP (Or.inl hd) (by decide)).trans e6) ?_
      refine mw_icmp_ge (tgt := 66) dX8_crash_35 (by decide) (fun cc => ?_) (fun cc => ?_)
      · have cc := (nI_leI (by omega) (by omega)).mp cc
        refine mw_aload_n 1 dX8_crash_66 rfl ?_
        refine mw_dup dX8_crash_67 rfl ?_
        refine mw_geti 8 7 dX8_crash_68 fl_X8_30 (by decide) (by decide) rfl (sa_o hs) ?_
        refine mw_top (x' := (V 0 7)) (bk_i (j := 0) (by decide)) ?_
        refine mw_aload_n 1 dX8_crash_71 rfl ?_
        refine mw_geti 8 6 dX8_crash_72 fl_X8_27 (by decide) (by decide) rfl (sa_o hs) ?_
        refine mw_top (x' := acc) (bk_i (j := 0) (by decide)) ?_
        refine mw_iconst (v := -1) dX8_crash_75 rfl ?_
        refine mw_ixor dX8_crash_76 ?_
        refine mw_iand dX8_crash_77 ?_
        refine mw_puti 8 7 dX8_crash_78 fl_X8_30 (by decide) (by decide) rfl rfl (sa_o hs) ⟨rfl, rfl⟩ ?_
        refine mw_hp (bk_si (j := 0) (by decide)) ?_
        refine mw_return dX8_crash_81 rfl ⟨rfl, rfl⟩ ?_
        exact ⟨rfl, by rw [s_crashV, s_cr, ha, show i = ct P 6 by omega]⟩
      · have cc := mt (nI_leI (by omega) (by omega)).mpr cc
        refine mw_aload_n 1 dX8_crash_38 rfl ?_
        refine mw_getr 8 11 dX8_crash_39 fl_X8_43 (by decide) (by decide) rfl (sa_o hs) (sa_r11 hs) ?_
        refine mw_iload_n 0 dX8_crash_42 rfl ?_
        refine mw_iaN i dX8_crash_43 (sa_a11 hs) (by omega) (by decide) rfl ?_
        refine mw_top (x' := (V 4 i)) (bk_i (j := 4) (by decide)) ?_
        refine mw_iload_n 3 dX8_crash_44 rfl ?_
        refine mw_icmp_ne (tgt := 60) dX8_crash_45 (by decide) (fun c45 => ?_) (fun c45 => ?_)
        · refine mw_iinc 0 (nI (i + 1)) [(3, .int (nI (i + 1))), (0, .ref s), (1, .int (nI t)), (2, .int c)] dX8_crash_60 rfl (nI_1 _) (Nat.le_of_ble_eq_true rfl) rfl ?_
          refine mw_goto (tgt := 24) dX8_crash_63 (by decide) ?_
          refine ih24 _ _ ?_ ?_ ?_
          · first | omega | rfl | assumption | (simp_all [bo]; done)
          · rw [lo, ← ha]; simp [c45]
          · omega
        · refine mw_aload_n 1 dX8_crash_48 rfl ?_
          refine mw_dup dX8_crash_49 rfl ?_
          refine mw_geti 8 6 dX8_crash_50 fl_X8_27 (by decide) (by decide) rfl (sa_o hs) ?_
          refine mw_top (x' := acc) (bk_i (j := 0) (by decide)) ?_
          refine mw_iconst (v := 1) dX8_crash_53 rfl ?_
          refine mw_iload_n 0 dX8_crash_54 rfl ?_
          refine mw_ishl dX8_crash_55 ?_
          refine mw_ior dX8_crash_56 ?_
          refine mw_puti 8 6 dX8_crash_57 fl_X8_27 (by decide) (by decide) rfl rfl (sa_o hs) ⟨rfl, rfl⟩ ?_
          refine mw_hp (bk_si (j := 0) (by decide)) ?_
          refine mw_iinc 0 (nI (i + 1)) [(3, .int (nI (i + 1))), (0, .ref s), (1, .int (nI t)), (2, .int c)] dX8_crash_60 rfl (nI_1 _) (Nat.le_of_ble_eq_true rfl) rfl ?_
          refine mw_goto (tgt := 24) dX8_crash_63 (by decide) ?_
          refine mw_hp (by rw [u2_u2]) ?_
          refine ih24 _ _ ?_ ?_ ?_
          · first | omega | rfl | assumption | (simp_all [bo]; done)
          · rw [lo, ← ha]; simp [c45]
          · omega
  refine L24 _ 0 (V 0 6 ||| (1 <<< (nI t &&& 31))) ?_ ?_ (Nat.lt_succ_self _)
  · first | omega | rfl | assumption | (simp_all [bo]; done)
  · rfl
