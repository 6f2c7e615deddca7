def s_setV (P V : m_V) (r : Nat) : m_V := if s_whyNotSet P V r = 0 then u2 V 1 r 1 else V
set_option maxRecDepth 100000 in
set_option maxHeartbeats 4000000 in
theorem c_X8_setRoute (d : Nat) (h : m_H) (s : Nat) (V P : m_V) (SL : m_L) (hs : isState h.2.2 s) (hp : isPlan h.2.2 4) (hV : blI h s 7 V) (hP : blI h 4 21 P) (hN : okP P) (hSL : blJ h s 7 SL) (hd : 4 + 21 ≤ s) (r : Nat) (hr : r < 10) : MC yX8_setRoute cX8_setRoute 3 (some .int) (d + 4) 0 0 [.ref s, .int (nI r)] h (m_r (.int (s_whyNotSet P V r)) (m_bk h s 7 (s_setV P V r) SL)) := by
  refine mc_of (by decide +kernel) (Nat.le_of_ble_eq_true rfl) ?_
  show MW (yX8_setRoute.cls, cX8_setRoute, 3, (some .int), yX8_setRoute.name, d + 4, 0, 0) 0 (0, 0) [(0, .ref s), (1, .int (nI r))] [] h _
  refine mw_hp (bk_self (n := 7) hV hSL) ?_
  refine mw_aload_n 0 dX8_setRoute_0 rfl ?_
  refine mw_iload_n 1 dX8_setRoute_1 rfl ?_
  refine mw_cV (rest := []) [.int (nI r)] (c_X8_whyNotSet d (m_bk h s 7 V SL) s _ P hs hp bk_I (bk_O hP (Or.inl hd)) hN r hr) mY_X8_whyNotSet dX8_setRoute_2 ml_X8_128 (sa_o hs) rfl rfl (Nat.le_of_ble_eq_true rfl) ⟨Nat.le_refl _, Nat.le_refl _⟩ rfl ?_
  refine mw_istore_n [(2, .int (s_whyNotSet P V r)), (0, .ref s), (1, .int (nI r))] dX8_setRoute_5 (Nat.le_of_ble_eq_true rfl) rfl ?_
  refine mw_iload_n 0 dX8_setRoute_6 rfl ?_
  refine mw_if_ne (tgt := 17) dX8_setRoute_7 (by decide) (fun c7 => ?_) (fun c7 => ?_)
  · refine mw_iload_n 0 dX8_setRoute_17 rfl ?_
    refine mw_ireturn dX8_setRoute_18 rfl rfl ⟨rfl, rfl⟩ ?_
    exact ⟨rfl, by simp [s_setV, c7]⟩
  · refine mw_aload_n 1 dX8_setRoute_10 rfl ?_
    refine mw_getr 8 8 dX8_setRoute_11 fl_X8_33 (by decide) (by decide) rfl (sa_o hs) (sa_r8 hs) ?_
    refine mw_iload_n 2 dX8_setRoute_14 rfl ?_
    refine mw_iconst (v := 1) dX8_setRoute_15 rfl ?_
    refine mw_isN r dX8_setRoute_16 (sa_a8 hs) (by omega) (by decide) rfl ?_
    refine mw_hp (bk_si (j := 1) (by decide)) ?_
    refine mw_iload_n 0 dX8_setRoute_17 rfl ?_
    refine mw_ireturn dX8_setRoute_18 rfl rfl ⟨rfl, rfl⟩ ?_
    exact ⟨rfl, by simp [s_setV, c7]⟩
def s_back (V : m_V) (r : Nat) : Int32 := if V 1 r = 1 then 0 else 1
def s_backV (P V : m_V) (r : Nat) : m_V := if V 1 r = 1 then (if s_isApproached P V (P 11 r).toNatClampNeg then u2 (u2 V 1 r 3) 2 r (P 1 7) else u2 V 1 r 0) else V
set_option maxRecDepth 100000 in
set_option maxHeartbeats 4000000 in
theorem c_X8_putBack (d : Nat) (h : m_H) (s : Nat) (V P : m_V) (SL : m_L) (hs : isState h.2.2 s) (hp : isPlan h.2.2 4) (hV : blI h s 7 V) (hP : blI h 4 21 P) (hN : okP P) (hSL : blJ h s 7 SL) (hd : 4 + 21 ≤ s) (r g : Nat) (hr : r < 10) (hg : P 11 r = nI g) (hg8 : g < 8) : MC yX8_putBack cX8_putBack 2 (some .int) (d + 2) 0 0 [.ref s, .int (nI r)] h (m_r (.int (s_back V r)) (m_bk h s 7 (s_backV P V r) SL)) := by
  refine mc_of (by decide +kernel) (Nat.le_of_ble_eq_true rfl) ?_
  show MW (yX8_putBack.cls, cX8_putBack, 2, (some .int), yX8_putBack.name, d + 2, 0, 0) 0 (0, 0) [(0, .ref s), (1, .int (nI r))] [] h _
  refine mw_hp (bk_self (n := 7) hV hSL) ?_
  refine mw_aload_n 0 dX8_putBack_0 rfl ?_
  refine mw_getr 8 8 dX8_putBack_1 fl_X8_33 (by decide) (by decide) rfl (sa_o hs) (sa_r8 hs) ?_
  refine mw_iload_n 1 dX8_putBack_4 rfl ?_
  refine mw_iaN r dX8_putBack_5 (sa_a8 hs) (by omega) (by decide) rfl ?_
  refine mw_top (x' := (V 1 r)) (bk_i (j := 1) (by decide)) ?_
  refine mw_iconst (v := 1) dX8_putBack_6 rfl ?_
  refine mw_icmp_eq (tgt := 12) dX8_putBack_7 (by decide) (fun c7 => ?_) (fun c7 => ?_)
  · refine mw_aload_n 0 dX8_putBack_12 rfl ?_
    refine mw_aload_n 0 dX8_putBack_13 rfl ?_
    refine mw_getr 8 0 dX8_putBack_14 fl_X8_52 (by decide) (by decide) rfl (sa_o hs) (sa_r0 hs) ?_
    refine mw_getr 5 10 dX8_putBack_17 fl_X8_78 (by decide) (by decide) rfl (pl_o hp) (pl_r10 hp) ?_
    refine mw_iload_n 1 dX8_putBack_20 rfl ?_
    refine mw_iaN r dX8_putBack_21 (pl_a10 hp) (by omega) (by decide) rfl ?_
    refine mw_top (x' := (P 11 r)) (bk_o (j := 11) hP (Or.inl hd) (by decide)) ?_
    refine mw_top (x' := (nI g)) hg ?_
    refine mw_cV (rest := []) [.int (nI g)] (c_X8_isApproached d (m_bk h s 7 V SL) s _ P hs hp bk_I (bk_O hP (Or.inl hd)) hN g hg8) mY_X8_isApproached dX8_putBack_22 ml_X8_131 (sa_o hs) rfl rfl (Nat.le_of_ble_eq_true rfl) ⟨Nat.le_refl _, Nat.le_refl _⟩ rfl ?_
    refine mw_if_eq (tgt := 54) dX8_putBack_25 (by decide) (fun c25 => ?_) (fun c25 => ?_)
    · have c25 : s_isApproached P V g = false := by revert c25; cases s_isApproached P V g <;> simp [b2]
      refine mw_aload_n 0 dX8_putBack_54 rfl ?_
      refine mw_getr 8 8 dX8_putBack_55 fl_X8_33 (by decide) (by decide) rfl (sa_o hs) (sa_r8 hs) ?_
      refine mw_iload_n 1 dX8_putBack_58 rfl ?_
      refine mw_iconst (v := 0) dX8_putBack_59 rfl ?_
      refine mw_isN r dX8_putBack_60 (sa_a8 hs) (by omega) (by decide) rfl ?_
      refine mw_hp (bk_si (j := 1) (by decide)) ?_
      refine mw_iconst (v := 0) dX8_putBack_61 rfl ?_
      refine mw_ireturn dX8_putBack_62 rfl rfl ⟨rfl, rfl⟩ ?_
      exact ⟨by simp [s_back, c7], by simp [s_backV, c7, hg, nI_clamp (show g < 2 ^ 31 by omega), c25]⟩
    · have c25 : s_isApproached P V g = true := by revert c25; cases s_isApproached P V g <;> simp [b2]
      refine mw_aload_n 0 dX8_putBack_28 rfl ?_
      refine mw_getr 8 8 dX8_putBack_29 fl_X8_33 (by decide) (by decide) rfl (sa_o hs) (sa_r8 hs) ?_
      refine mw_iload_n 1 dX8_putBack_32 rfl ?_
      refine mw_iconst (v := 3) dX8_putBack_33 rfl ?_
      refine mw_isN r dX8_putBack_34 (sa_a8 hs) (by omega) (by decide) rfl ?_
      refine mw_hp (bk_si (j := 1) (by decide)) ?_
      refine mw_aload_n 0 dX8_putBack_35 rfl ?_
      refine mw_getr 8 9 dX8_putBack_36 fl_X8_37 (by decide) (by decide) rfl (sa_o hs) (sa_r9 hs) ?_
      refine mw_iload_n 1 dX8_putBack_39 rfl ?_
      refine mw_aload_n 0 dX8_putBack_40 rfl ?_
      refine mw_getr 8 0 dX8_putBack_41 fl_X8_52 (by decide) (by decide) rfl (sa_o hs) (sa_r0 hs) ?_
      refine mw_getr 5 0 dX8_putBack_44 fl_X8_71 (by decide) (by decide) rfl (pl_o hp) (pl_r0 hp) ?_
      refine mw_bipush (v := 7) dX8_putBack_47 (by decide) ?_
      refine mw_iaN 7 dX8_putBack_49 (pl_a0 hp) (by decide) (by decide) (by decide) ?_
      refine mw_top (x' := (P 1 7)) (bk_o (j := 1) hP (Or.inl hd) (by decide)) ?_
      refine mw_isN r dX8_putBack_50 (sa_a9 hs) (by omega) (by decide) rfl ?_
      refine mw_hp (bk_si (j := 2) (by decide)) ?_
      refine mw_goto (tgt := 61) dX8_putBack_51 (by decide) ?_
      refine mw_iconst (v := 0) dX8_putBack_61 rfl ?_
      refine mw_ireturn dX8_putBack_62 rfl rfl ⟨rfl, rfl⟩ ?_
      exact ⟨by simp [s_back, c7], by simp [s_backV, c7, hg, nI_clamp (show g < 2 ^ 31 by omega), c25]⟩
  · refine mw_iconst (v := 1) dX8_putBack_10 rfl ?_
    refine mw_ireturn dX8_putBack_11 rfl rfl ⟨rfl, rfl⟩ ?_
    exact ⟨by simp [s_back, c7], by simp [s_backV, c7]⟩
def s_whyThrow (P V : m_V) (k : Nat) : Int32 := if (s_showing P V >>> (P 4 k &&& 31)) &&& 1 = 1 then 1 else if ¬ (p_routesNeeding P (nI k) 0 ||| p_routesNeeding P (nI k) 1) &&& s_notFree P V = 0 then 2 else 0
def s_throwV (P V : m_V) (k : Nat) : m_V := if s_whyThrow P V k = 0 then u2 V 0 3 (V 0 3 ^^^ (1 <<< (nI k &&& 31))) else V
set_option maxRecDepth 100000 in
set_option maxHeartbeats 4000000 in
theorem c_X8_throwPoints (d : Nat) (h : m_H) (s : Nat) (V P : m_V) (SL : m_L) (hs : isState h.2.2 s) (hp : isPlan h.2.2 4) (hV : blI h s 7 V) (hP : blI h 4 21 P) (hN : okP P) (hSL : blJ h s 7 SL) (hd : 4 + 21 ≤ s) (k : Nat) (hk : k < 6) : MC yX8_throwPoints cX8_throwPoints 3 (some .int) (d + 3) 0 0 [.ref s, .int (nI k)] h (m_r (.int (s_whyThrow P V k)) (m_bk h s 7 (s_throwV P V k) SL)) := by
  refine mc_of (by decide +kernel) (Nat.le_of_ble_eq_true rfl) ?_
  show MW (yX8_throwPoints.cls, cX8_throwPoints, 3, (some .int), yX8_throwPoints.name, d + 3, 0, 0) 0 (0, 0) [(0, .ref s), (1, .int (nI k))] [] h _
  refine mw_hp (bk_self (n := 7) hV hSL) ?_
  refine mw_aload_n 0 dX8_throwPoints_0 rfl ?_
  refine mw_cV (rest := []) [] (c_X8_showing d (m_bk h s 7 V SL) s _ P hs hp bk_I (bk_O hP (Or.inl hd)) hN) mY_X8_showing dX8_throwPoints_1 ml_X8_122 (sa_o hs) rfl rfl (Nat.le_of_ble_eq_true rfl) ⟨Nat.le_refl _, Nat.le_refl _⟩ rfl ?_
  refine mw_aload_n 0 dX8_throwPoints_4 rfl ?_
  refine mw_getr 8 0 dX8_throwPoints_5 fl_X8_52 (by decide) (by decide) rfl (sa_o hs) (sa_r0 hs) ?_
  refine mw_getr 5 3 dX8_throwPoints_8 fl_X8_144 (by decide) (by decide) rfl (pl_o hp) (pl_r3 hp) ?_
  refine mw_iload_n 1 dX8_throwPoints_11 rfl ?_
  refine mw_iaN k dX8_throwPoints_12 (pl_a3 hp) (by omega) (by decide) rfl ?_
  refine mw_top (x' := (P 4 k)) (bk_o (j := 4) hP (Or.inl hd) (by decide)) ?_
  refine mw_ishr dX8_throwPoints_13 ?_
  refine mw_iconst (v := 1) dX8_throwPoints_14 rfl ?_
  refine mw_iand dX8_throwPoints_15 ?_
  refine mw_iconst (v := 1) dX8_throwPoints_16 rfl ?_
  refine mw_icmp_ne (tgt := 22) dX8_throwPoints_17 (by decide) (fun c17 => ?_) (fun c17 => ?_)
  · refine mw_aload_n 0 dX8_throwPoints_22 rfl ?_
    refine mw_getr 8 0 dX8_throwPoints_23 fl_X8_52 (by decide) (by decide) rfl (sa_o hs) (sa_r0 hs) ?_
    refine mw_iload_n 1 dX8_throwPoints_26 rfl ?_
    refine mw_iconst (v := 0) dX8_throwPoints_27 rfl ?_
    refine mw_cV (rest := []) [.int (nI k), .int 0] (c_X5_routesNeeding (d + 1) (m_bk h s 7 V SL) 4 P hp (bk_O hP (Or.inl hd)) hN _ _) mY_X5_routesNeeding dX8_throwPoints_28 ml_X8_147 (pl_o hp) rfl rfl (Nat.le_of_ble_eq_true rfl) ⟨Nat.le_refl _, Nat.le_refl _⟩ rfl ?_
    refine mw_aload_n 0 dX8_throwPoints_31 rfl ?_
    refine mw_getr 8 0 dX8_throwPoints_32 fl_X8_52 (by decide) (by decide) rfl (sa_o hs) (sa_r0 hs) ?_
    refine mw_iload_n 1 dX8_throwPoints_35 rfl ?_
    refine mw_iconst (v := 1) dX8_throwPoints_36 rfl ?_
    refine mw_cV (rest := [.int (p_routesNeeding P (nI k) 0)]) [.int (nI k), .int 1] (c_X5_routesNeeding (d + 1) (m_bk h s 7 V SL) 4 P hp (bk_O hP (Or.inl hd)) hN _ _) mY_X5_routesNeeding dX8_throwPoints_37 ml_X8_147 (pl_o hp) rfl rfl (Nat.le_of_ble_eq_true rfl) ⟨Nat.le_refl _, Nat.le_refl _⟩ rfl ?_
    refine mw_ior dX8_throwPoints_40 ?_
    refine mw_istore_n [(2, .int ((p_routesNeeding P (nI k) 0) ||| (p_routesNeeding P (nI k) 1))), (0, .ref s), (1, .int (nI k))] dX8_throwPoints_41 (Nat.le_of_ble_eq_true rfl) rfl ?_
    refine mw_iload_n 0 dX8_throwPoints_42 rfl ?_
    refine mw_aload_n 1 dX8_throwPoints_43 rfl ?_
    refine mw_cV (rest := [.int ((p_routesNeeding P (nI k) 0) ||| (p_routesNeeding P (nI k) 1))]) [] (c_X8_notFree (d + 1) (m_bk h s 7 V SL) s _ P hs hp bk_I (bk_O hP (Or.inl hd)) hN) mY_X8_notFree dX8_throwPoints_44 ml_X8_113 (sa_o hs) rfl rfl (Nat.le_of_ble_eq_true rfl) ⟨Nat.le_refl _, Nat.le_refl _⟩ rfl ?_
    refine mw_iand dX8_throwPoints_47 ?_
    refine mw_if_eq (tgt := 53) dX8_throwPoints_48 (by decide) (fun c48 => ?_) (fun c48 => ?_)
    · refine mw_aload_n 1 dX8_throwPoints_53 rfl ?_
      refine mw_dup dX8_throwPoints_54 rfl ?_
      refine mw_geti 8 3 dX8_throwPoints_55 fl_X8_18 (by decide) (by decide) rfl (sa_o hs) ?_
      refine mw_top (x' := (V 0 3)) (bk_i (j := 0) (by decide)) ?_
      refine mw_iconst (v := 1) dX8_throwPoints_58 rfl ?_
      refine mw_iload_n 2 dX8_throwPoints_59 rfl ?_
      refine mw_ishl dX8_throwPoints_60 ?_
      refine mw_ixor dX8_throwPoints_61 ?_
      refine mw_puti 8 3 dX8_throwPoints_62 fl_X8_18 (by decide) (by decide) rfl rfl (sa_o hs) ⟨rfl, rfl⟩ ?_
      refine mw_hp (bk_si (j := 0) (by decide)) ?_
      refine mw_iconst (v := 0) dX8_throwPoints_65 rfl ?_
      refine mw_ireturn dX8_throwPoints_66 rfl rfl ⟨rfl, rfl⟩ ?_
      exact ⟨by simp [s_whyThrow, c17, c48], by simp [s_throwV, s_whyThrow, c17, c48]⟩
    · refine mw_iconst (v := 2) dX8_throwPoints_51 rfl ?_
      refine mw_ireturn dX8_throwPoints_52 rfl rfl ⟨rfl, rfl⟩ ?_
      exact ⟨by simp [s_whyThrow, c17, c48], by simp [s_throwV, s_whyThrow, c17, c48]⟩
  · refine mw_iconst (v := 1) dX8_throwPoints_20 rfl ?_
    refine mw_ireturn dX8_throwPoints_21 rfl rfl ⟨rfl, rfl⟩ ?_
    exact ⟨by simp [s_whyThrow, c17], by simp [s_throwV, s_whyThrow, c17]⟩
def s_fail (V : m_V) (k full : Int32) : Int32 := if s_failing V k = full + 1 then 1 else 0
def s_failV (V : m_V) (k full : Int32) : m_V := if s_failing V k = full + 1 then V else u2 (u2 V 0 4 (if full = 0 then V 0 4 ||| (1 <<< (k &&& 31)) else V 0 4 &&& ((1 <<< (k &&& 31)) ^^^ -1))) 0 5 (if full = 0 then V 0 5 &&& ((1 <<< (k &&& 31)) ^^^ -1) else V 0 5 ||| (1 <<< (k &&& 31)))
set_option maxRecDepth 100000 in
set_option maxHeartbeats 4000000 in
theorem c_X8_failSection (d : Nat) (h : m_H) (s : Nat) (V P : m_V) (SL : m_L) (hs : isState h.2.2 s) (hp : isPlan h.2.2 4) (hV : blI h s 7 V) (hP : blI h 4 21 P) (hN : okP P) (hSL : blJ h s 7 SL) (hd : 4 + 21 ≤ s) (k full : Int32) : MC yX8_failSection cX8_failSection 4 (some .int) (d + 2) 0 0 [.ref s, .int k, .int full] h (m_r (.int (s_fail V k full)) (m_bk h s 7 (s_failV V k full) SL)) := by
  refine mc_of (by decide +kernel) (Nat.le_of_ble_eq_true rfl) ?_
  show MW (yX8_failSection.cls, cX8_failSection, 4, (some .int), yX8_failSection.name, d + 2, 0, 0) 0 (0, 0) [(0, .ref s), (1, .int k), (2, .int full)] [] h _
  refine mw_hp (bk_self (n := 7) hV hSL) ?_
  refine mw_aload_n 0 dX8_failSection_0 rfl ?_
  refine mw_iload_n 1 dX8_failSection_1 rfl ?_
  refine mw_cV (rest := []) [.int k] (c_X8_failing d (m_bk h s 7 V SL) s _ P hs hp bk_I (bk_O hP (Or.inl hd)) hN k) mY_X8_failing dX8_failSection_2 ml_X8_150 (sa_o hs) rfl rfl (Nat.le_of_ble_eq_true rfl) ⟨Nat.le_refl _, Nat.le_refl _⟩ rfl ?_
  refine mw_iload_n 2 dX8_failSection_5 rfl ?_
  refine mw_iconst (v := 1) dX8_failSection_6 rfl ?_
  refine mw_iadd dX8_failSection_7 ?_
  refine mw_icmp_ne (tgt := 13) dX8_failSection_8 (by decide) (fun c8 => ?_) (fun c8 => ?_)
  · refine mw_iconst (v := 1) dX8_failSection_13 rfl ?_
    refine mw_iload_n 1 dX8_failSection_14 rfl ?_
    refine mw_ishl dX8_failSection_15 ?_
    refine mw_istore_n [(3, .int (1 <<< (k &&& 31))), (0, .ref s), (1, .int k), (2, .int full)] dX8_failSection_16 (Nat.le_of_ble_eq_true rfl) rfl ?_
    refine mw_aload_n 1 dX8_failSection_17 rfl ?_
    refine mw_iload_n 3 dX8_failSection_18 rfl ?_
    refine mw_if_ne (tgt := 31) dX8_failSection_19 (by decide) (fun c19 => ?_) (fun c19 => ?_)
    · refine mw_aload_n 1 dX8_failSection_31 rfl ?_
      refine mw_geti 8 4 dX8_failSection_32 fl_X8_21 (by decide) (by decide) rfl (sa_o hs) ?_
      refine mw_top (x' := (V 0 4)) (bk_i (j := 0) (by decide)) ?_
      refine mw_iload_n 0 dX8_failSection_35 rfl ?_
      refine mw_iconst (v := -1) dX8_failSection_36 rfl ?_
      refine mw_ixor dX8_failSection_37 ?_
      refine mw_iand dX8_failSection_38 ?_
      refine mw_puti 8 4 dX8_failSection_39 fl_X8_21 (by decide) (by decide) rfl rfl (sa_o hs) ⟨rfl, rfl⟩ ?_
      refine mw_hp (bk_si (j := 0) (by decide)) ?_
      refine mw_aload_n 1 dX8_failSection_42 rfl ?_
      refine mw_iload_n 3 dX8_failSection_43 rfl ?_
      refine mw_if_ne (tgt := 58) dX8_failSection_44 (by decide) (fun c44 => ?_) (fun c44 => ?_)
      · refine mw_aload_n 1 dX8_failSection_58 rfl ?_
        refine mw_geti 8 5 dX8_failSection_59 fl_X8_24 (by decide) (by decide) rfl (sa_o hs) ?_
        refine mw_top (x' := (V 0 5)) (bk_i (j := 0) (by decide)) ?_
        refine mw_iload_n 0 dX8_failSection_62 rfl ?_
        refine mw_ior dX8_failSection_63 ?_
        refine mw_puti 8 5 dX8_failSection_64 fl_X8_24 (by decide) (by decide) rfl rfl (sa_o hs) ⟨rfl, rfl⟩ ?_
        refine mw_hp (bk_si (j := 0) (by decide)) ?_
        refine mw_iconst (v := 0) dX8_failSection_67 rfl ?_
        refine mw_ireturn dX8_failSection_68 rfl rfl ⟨rfl, rfl⟩ ?_
        exact ⟨by rw [s_fail, if_neg c8], by first | exact absurd c44 c19 | exact absurd c19 c44 | (rw [s_failV, if_neg c8, if_pos c19, if_pos c19]) | (rw [s_failV, if_neg c8, if_neg c19, if_neg c19])⟩
      · refine mw_aload_n 1 dX8_failSection_47 rfl ?_
        refine mw_geti 8 5 dX8_failSection_48 fl_X8_24 (by decide) (by decide) rfl (sa_o hs) ?_
        refine mw_top (x' := (V 0 5)) (bk_i (j := 0) (by decide)) ?_
        refine mw_iload_n 0 dX8_failSection_51 rfl ?_
        refine mw_iconst (v := -1) dX8_failSection_52 rfl ?_
        refine mw_ixor dX8_failSection_53 ?_
        refine mw_iand dX8_failSection_54 ?_
        refine mw_goto (tgt := 64) dX8_failSection_55 (by decide) ?_
        refine mw_puti 8 5 dX8_failSection_64 fl_X8_24 (by decide) (by decide) rfl rfl (sa_o hs) ⟨rfl, rfl⟩ ?_
        refine mw_hp (bk_si (j := 0) (by decide)) ?_
        refine mw_iconst (v := 0) dX8_failSection_67 rfl ?_
        refine mw_ireturn dX8_failSection_68 rfl rfl ⟨rfl, rfl⟩ ?_
        exact ⟨by rw [s_fail, if_neg c8], by first | exact absurd c44 c19 | exact absurd c19 c44 | (rw [s_failV, if_neg c8, if_pos c19, if_pos c19]) | (rw [s_failV, if_neg c8, if_neg c19, if_neg c19])⟩
    · refine mw_aload_n 1 dX8_failSection_22 rfl ?_
      refine mw_geti 8 4 dX8_failSection_23 fl_X8_21 (by decide) (by decide) rfl (sa_o hs) ?_
      refine mw_top (x' := (V 0 4)) (bk_i (j := 0) (by decide)) ?_
      refine mw_iload_n 0 dX8_failSection_26 rfl ?_
      refine mw_ior dX8_failSection_27 ?_
      refine mw_goto (tgt := 39) dX8_failSection_28 (by decide) ?_
      refine mw_puti 8 4 dX8_failSection_39 fl_X8_21 (by decide) (by decide) rfl rfl (sa_o hs) ⟨rfl, rfl⟩ ?_
      refine mw_hp (bk_si (j := 0) (by decide)) ?_
      refine mw_aload_n 1 dX8_failSection_42 rfl ?_
      refine mw_iload_n 3 dX8_failSection_43 rfl ?_
      refine mw_if_ne (tgt := 58) dX8_failSection_44 (by decide) (fun c44 => ?_) (fun c44 => ?_)
      · refine mw_aload_n 1 dX8_failSection_58 rfl ?_
        refine mw_geti 8 5 dX8_failSection_59 fl_X8_24 (by decide) (by decide) rfl (sa_o hs) ?_
        refine mw_top (x' := (V 0 5)) (bk_i (j := 0) (by decide)) ?_
        refine mw_iload_n 0 dX8_failSection_62 rfl ?_
        refine mw_ior dX8_failSection_63 ?_
        refine mw_puti 8 5 dX8_failSection_64 fl_X8_24 (by decide) (by decide) rfl rfl (sa_o hs) ⟨rfl, rfl⟩ ?_
        refine mw_hp (bk_si (j := 0) (by decide)) ?_
        refine mw_iconst (v := 0) dX8_failSection_67 rfl ?_
        refine mw_ireturn dX8_failSection_68 rfl rfl ⟨rfl, rfl⟩ ?_
        exact ⟨by rw [s_fail, if_neg c8], by first | exact absurd c44 c19 | exact absurd c19 c44 | (rw [s_failV, if_neg c8, if_pos c19, if_pos c19]) | (rw [s_failV, if_neg c8, if_neg c19, if_neg c19])⟩
      · refine mw_aload_n 1 dX8_failSection_47 rfl ?_
        refine mw_geti 8 5 dX8_failSection_48 fl_X8_24 (by decide) (by decide) rfl (sa_o hs) ?_
        refine mw_top (x' := (V 0 5)) (bk_i (j := 0) (by decide)) ?_
        refine mw_iload_n 0 dX8_failSection_51 rfl ?_
        refine mw_iconst (v := -1) dX8_failSection_52 rfl ?_
        refine mw_ixor dX8_failSection_53 ?_
        refine mw_iand dX8_failSection_54 ?_
        refine mw_goto (tgt := 64) dX8_failSection_55 (by decide) ?_
        refine mw_puti 8 5 dX8_failSection_64 fl_X8_24 (by decide) (by decide) rfl rfl (sa_o hs) ⟨rfl, rfl⟩ ?_
        refine mw_hp (bk_si (j := 0) (by decide)) ?_
        refine mw_iconst (v := 0) dX8_failSection_67 rfl ?_
        refine mw_ireturn dX8_failSection_68 rfl rfl ⟨rfl, rfl⟩ ?_
        exact ⟨by rw [s_fail, if_neg c8], by first | exact absurd c44 c19 | exact absurd c19 c44 | (rw [s_failV, if_neg c8, if_pos c19, if_pos c19]) | (rw [s_failV, if_neg c8, if_neg c19, if_neg c19])⟩
  · refine mw_iconst (v := 1) dX8_failSection_11 rfl ?_
    refine mw_ireturn dX8_failSection_12 rfl rfl ⟨rfl, rfl⟩ ?_
    exact ⟨by simp [s_fail, c8], by simp [s_failV, c8]⟩
def s_mend (V : m_V) (k : Int32) : Int32 := if s_failing V k = 0 then 1 else 0
def s_mendV (V : m_V) (k : Int32) : m_V := if s_failing V k = 0 then V else u2 (u2 V 0 4 (V 0 4 &&& ((1 <<< (k &&& 31)) ^^^ -1))) 0 5 (V 0 5 &&& ((1 <<< (k &&& 31)) ^^^ -1))
set_option maxRecDepth 100000 in
set_option maxHeartbeats 4000000 in
theorem c_X8_mendSection (d : Nat) (h : m_H) (s : Nat) (V P : m_V) (SL : m_L) (hs : isState h.2.2 s) (hp : isPlan h.2.2 4) (hV : blI h s 7 V) (hP : blI h 4 21 P) (hN : okP P) (hSL : blJ h s 7 SL) (hd : 4 + 21 ≤ s) (k : Int32) : MC yX8_mendSection cX8_mendSection 2 (some .int) (d + 2) 0 0 [.ref s, .int k] h (m_r (.int (s_mend V k)) (m_bk h s 7 (s_mendV V k) SL)) := by
  refine mc_of (by decide +kernel) (Nat.le_of_ble_eq_true rfl) ?_
  show MW (yX8_mendSection.cls, cX8_mendSection, 2, (some .int), yX8_mendSection.name, d + 2, 0, 0) 0 (0, 0) [(0, .ref s), (1, .int k)] [] h _
  refine mw_hp (bk_self (n := 7) hV hSL) ?_
  refine mw_aload_n 0 dX8_mendSection_0 rfl ?_
  refine mw_iload_n 1 dX8_mendSection_1 rfl ?_
  refine mw_cV (rest := []) [.int k] (c_X8_failing d (m_bk h s 7 V SL) s _ P hs hp bk_I (bk_O hP (Or.inl hd)) hN k) mY_X8_failing dX8_mendSection_2 ml_X8_150 (sa_o hs) rfl rfl (Nat.le_of_ble_eq_true rfl) ⟨Nat.le_refl _, Nat.le_refl _⟩ rfl ?_
  refine mw_if_ne (tgt := 10) dX8_mendSection_5 (by decide) (fun c5 => ?_) (fun c5 => ?_)
  · refine mw_aload_n 0 dX8_mendSection_10 rfl ?_
    refine mw_dup dX8_mendSection_11 rfl ?_
    refine mw_geti 8 4 dX8_mendSection_12 fl_X8_21 (by decide) (by decide) rfl (sa_o hs) ?_
    refine mw_top (x' := (V 0 4)) (bk_i (j := 0) (by decide)) ?_
    refine mw_iconst (v := 1) dX8_mendSection_15 rfl ?_
    refine mw_iload_n 1 dX8_mendSection_16 rfl ?_
    refine mw_ishl dX8_mendSection_17 ?_
    refine mw_iconst (v := -1) dX8_mendSection_18 rfl ?_
    refine mw_ixor dX8_mendSection_19 ?_
    refine mw_iand dX8_mendSection_20 ?_
    refine mw_puti 8 4 dX8_mendSection_21 fl_X8_21 (by decide) (by decide) rfl rfl (sa_o hs) ⟨rfl, rfl⟩ ?_
    refine mw_hp (bk_si (j := 0) (by decide)) ?_
    refine mw_aload_n 0 dX8_mendSection_24 rfl ?_
    refine mw_dup dX8_mendSection_25 rfl ?_
    refine mw_geti 8 5 dX8_mendSection_26 fl_X8_24 (by decide) (by decide) rfl (sa_o hs) ?_
    refine mw_top (x' := (V 0 5)) (bk_i (j := 0) (by decide)) ?_
    refine mw_iconst (v := 1) dX8_mendSection_29 rfl ?_
    refine mw_iload_n 1 dX8_mendSection_30 rfl ?_
    refine mw_ishl dX8_mendSection_31 ?_
    refine mw_iconst (v := -1) dX8_mendSection_32 rfl ?_
    refine mw_ixor dX8_mendSection_33 ?_
    refine mw_iand dX8_mendSection_34 ?_
    refine mw_puti 8 5 dX8_mendSection_35 fl_X8_24 (by decide) (by decide) rfl rfl (sa_o hs) ⟨rfl, rfl⟩ ?_
    refine mw_hp (bk_si (j := 0) (by decide)) ?_
    refine mw_iconst (v := 0) dX8_mendSection_38 rfl ?_
    refine mw_ireturn dX8_mendSection_39 rfl rfl ⟨rfl, rfl⟩ ?_
    exact ⟨by simp [s_mend, c5], by simp [s_mendV, c5]⟩
  · refine mw_iconst (v := 1) dX8_mendSection_8 rfl ?_
    refine mw_ireturn dX8_mendSection_9 rfl rfl ⟨rfl, rfl⟩ ?_
    exact ⟨by simp [s_mend, c5], by simp [s_mendV, c5]⟩
def s_perform (P V : m_V) (w : Int32) (k : Nat) (full : Int32) : Int32 := if w = 13 then s_whyNotSet P V k else if w = 14 then s_back V k else if w = 15 then s_whyThrow P V k else if w = 16 then s_fail V (nI k) full else s_mend V (nI k)
def s_performV (P V : m_V) (w : Int32) (k : Nat) (full : Int32) : m_V := if w = 13 then s_setV P V k else if w = 14 then s_backV P V k else if w = 15 then s_throwV P V k else if w = 16 then s_failV V (nI k) full else s_mendV V (nI k)
set_option maxRecDepth 100000 in
set_option maxHeartbeats 4000000 in
theorem c_X8_perform (d : Nat) (h : m_H) (s : Nat) (V P : m_V) (SL : m_L) (hs : isState h.2.2 s) (hp : isPlan h.2.2 4) (hV : blI h s 7 V) (hP : blI h 4 21 P) (hN : okP P) (hSL : blJ h s 7 SL) (hd : 4 + 21 ≤ s) (w : Int32) (k : Nat) (full : Int32) (hk1 : w = 13 ∨ w = 14 → k < 10) (hk2 : w = 15 → k < 6) (hkg : w = 14 → ∃ g, P 11 k = nI g ∧ g < 8) : MC yX8_perform cX8_perform 4 (some .int) (d + 5) 0 0 [.ref s, .int w, .int (nI k), .int full] h (m_r (.int (s_perform P V w k full)) (m_bk h s 7 (s_performV P V w k full) SL)) := by
  refine mc_of (by decide +kernel) (Nat.le_of_ble_eq_true rfl) ?_
  show MW (yX8_perform.cls, cX8_perform, 4, (some .int), yX8_perform.name, d + 5, 0, 0) 0 (0, 0) [(0, .ref s), (1, .int w), (2, .int (nI k)), (3, .int full)] [] h _
  refine mw_hp (bk_self (n := 7) hV hSL) ?_
  refine mw_iload_n 1 dX8_perform_0 rfl ?_
  by_cases t1_0 : w = 13
  · refine mw_tabIn (tgt := 32) (off := 31) dX8_perform_1 (by rw [t1_0]; decide) (by rw [t1_0]; decide) (by rw [t1_0]; decide) (by decide) ?_
    refine mw_aload_n 0 dX8_perform_32 rfl ?_
    refine mw_iload_n 2 dX8_perform_33 rfl ?_
    refine mw_cV (rest := []) [.int (nI k)] (c_X8_setRoute d (m_bk h s 7 V SL) s _ P _ hs hp bk_I (bk_O hP (Or.inl hd)) hN bk_J hd k (hk1 (Or.inl t1_0))) mY_X8_setRoute dX8_perform_34 ml_X8_94 (sa_o hs) rfl rfl (Nat.le_of_ble_eq_true rfl) ⟨Nat.le_refl _, Nat.le_refl _⟩ rfl ?_
    refine mw_hp bk_bk ?_
    refine mw_ireturn dX8_perform_37 rfl rfl ⟨rfl, rfl⟩ ?_
    exact ⟨by simp [s_perform, t1_0], by simp [s_performV, t1_0]⟩
  by_cases t1_1 : w = 14
  · refine mw_tabIn (tgt := 38) (off := 37) dX8_perform_1 (by rw [t1_1]; decide) (by rw [t1_1]; decide) (by rw [t1_1]; decide) (by decide) ?_
    obtain ⟨g, hg, hg8⟩ := hkg t1_1
    refine mw_aload_n 0 dX8_perform_38 rfl ?_
    refine mw_iload_n 2 dX8_perform_39 rfl ?_
    refine mw_cV (rest := []) [.int (nI k)] (c_X8_putBack (d + 2) (m_bk h s 7 V SL) s _ P _ hs hp bk_I (bk_O hP (Or.inl hd)) hN bk_J hd k g (hk1 (Or.inr t1_1)) hg hg8) mY_X8_putBack dX8_perform_40 ml_X8_97 (sa_o hs) rfl rfl (Nat.le_of_ble_eq_true rfl) ⟨Nat.le_refl _, Nat.le_refl _⟩ rfl ?_
    refine mw_hp bk_bk ?_
    refine mw_ireturn dX8_perform_43 rfl rfl ⟨rfl, rfl⟩ ?_
    exact ⟨by simp [s_perform, t1_1], by simp [s_performV, t1_1]⟩
  by_cases t1_2 : w = 15
  · refine mw_tabIn (tgt := 44) (off := 43) dX8_perform_1 (by rw [t1_2]; decide) (by rw [t1_2]; decide) (by rw [t1_2]; decide) (by decide) ?_
    refine mw_aload_n 0 dX8_perform_44 rfl ?_
    refine mw_iload_n 2 dX8_perform_45 rfl ?_
    refine mw_cV (rest := []) [.int (nI k)] (c_X8_throwPoints (d + 1) (m_bk h s 7 V SL) s _ P _ hs hp bk_I (bk_O hP (Or.inl hd)) hN bk_J hd k (hk2 t1_2)) mY_X8_throwPoints dX8_perform_46 ml_X8_100 (sa_o hs) rfl rfl (Nat.le_of_ble_eq_true rfl) ⟨Nat.le_refl _, Nat.le_refl _⟩ rfl ?_
    refine mw_hp bk_bk ?_
    refine mw_ireturn dX8_perform_49 rfl rfl ⟨rfl, rfl⟩ ?_
    exact ⟨by simp [s_perform, t1_2], by simp [s_performV, t1_2]⟩
  by_cases t1_3 : w = 16
  · refine mw_tabIn (tgt := 50) (off := 49) dX8_perform_1 (by rw [t1_3]; decide) (by rw [t1_3]; decide) (by rw [t1_3]; decide) (by decide) ?_
    refine mw_aload_n 0 dX8_perform_50 rfl ?_
    refine mw_iload_n 2 dX8_perform_51 rfl ?_
    refine mw_iload_n 3 dX8_perform_52 rfl ?_
    refine mw_cV (rest := []) [.int (nI k), .int full] (c_X8_failSection (d + 2) (m_bk h s 7 V SL) s _ P _ hs hp bk_I (bk_O hP (Or.inl hd)) hN bk_J hd (nI k) full) mY_X8_failSection dX8_perform_53 ml_X8_103 (sa_o hs) rfl rfl (Nat.le_of_ble_eq_true rfl) ⟨Nat.le_refl _, Nat.le_refl _⟩ rfl ?_
    refine mw_hp bk_bk ?_
    refine mw_ireturn dX8_perform_56 rfl rfl ⟨rfl, rfl⟩ ?_
    exact ⟨by simp [s_perform, t1_3], by simp [s_performV, t1_3]⟩
  refine mw_tabOut (tgt := 57) dX8_perform_1 (by have := lv_neT t1_0 (a := 13) (by decide); have := lv_neT t1_1 (a := 14) (by decide); have := lv_neT t1_2 (a := 15) (by decide); have := lv_neT t1_3 (a := 16) (by decide); omega) (by decide) ?_
  refine mw_aload_n 0 dX8_perform_57 rfl ?_
  refine mw_iload_n 2 dX8_perform_58 rfl ?_
  refine mw_cV (rest := []) [.int (nI k)] (c_X8_mendSection (d + 2) (m_bk h s 7 V SL) s _ P _ hs hp bk_I (bk_O hP (Or.inl hd)) hN bk_J hd (nI k)) mY_X8_mendSection dX8_perform_59 ml_X8_107 (sa_o hs) rfl rfl (Nat.le_of_ble_eq_true rfl) ⟨Nat.le_refl _, Nat.le_refl _⟩ rfl ?_
  refine mw_hp bk_bk ?_
  refine mw_ireturn dX8_perform_62 rfl rfl ⟨rfl, rfl⟩ ?_
  exact ⟨by simp [s_perform, t1_0, t1_1, t1_2, t1_3], by simp [s_performV, t1_0, t1_1, t1_2, t1_3]⟩
