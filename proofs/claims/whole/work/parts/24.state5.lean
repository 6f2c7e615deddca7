set_option maxRecDepth 100000 in
set_option maxHeartbeats 4000000 in
theorem c_X8_passOne (d : Nat) (h : m_H) (s : Nat) (V P : m_V) (SL : m_L) (hs : isState h.2.2 s) (hp : isPlan h.2.2 4) (hV : blI h s 7 V) (hP : blI h 4 21 P) (hw : wfP P) (hSL : blJ h s 7 SL) (hd : 4 + 21 ≤ s) (ho : okS P V) : MC yX8_passOne cX8_passOne 2 none (d + 4) 0 0 [.ref s] h (m_rn (m_bk h s 7 (s_tickV P V) SL)) := by
  have hN := hw.1
  obtain ⟨e4, g4⟩ := hN.2.2.2.2.1
  obtain ⟨e6, g6⟩ := hN.2.2.2.2.2
  refine mc_of (by decide +kernel) (Nat.le_of_ble_eq_true rfl) ?_
  show MW (yX8_passOne.cls, cX8_passOne, 2, none, yX8_passOne.name, d + 4, 0, 0) 0 (0, 0) [(0, .ref s)] [] h _
  refine mw_hp (bk_self (n := 7) hV hSL) ?_
  refine mw_aload_n 0 dX8_passOne_0 rfl ?_
  refine mw_iconst (v := 0) dX8_passOne_1 rfl ?_
  refine mw_puti 8 7 dX8_passOne_2 fl_X8_30 (by decide) (by decide) rfl rfl (sa_o hs) ⟨rfl, rfl⟩ ?_
  refine mw_hp (bk_si (j := 0) (by decide)) ?_
  refine mw_iconst (v := 0) dX8_passOne_5 rfl ?_
  refine mw_istore_n [(1, .int 0), (0, .ref s)] dX8_passOne_6 (Nat.le_of_ble_eq_true rfl) rfl ?_
  have L7 : ∀ (m7 : Nat) (i : Nat) (U : m_V), (i ≤ ct P 6) → (U = lo (fun t W => if W 4 t = -1 ∨ ¬ (W 0 6 >>> (nI t &&& 31)) &&& 1 = 0 then W else s_runV P W t) i (u2 V 0 7 0)) → ct P 6 - i < m7 → MW (yX8_passOne.cls, cX8_passOne, 2, none, yX8_passOne.name, d + 4, 0, 0) 7 (0, 0) [(1, .int (nI i)), (0, .ref s)] [] (m_bk h s 7 U SL) (m_rn (m_bk h s 7 (s_tickV P V) SL)) := by
    intro m7
    induction m7 with
    | zero => intro i U _ _ hm7; exact absurd hm7 (Nat.not_lt_zero _)
    | succ m7 ih7 =>
      intro i U hi hu hm7
      have hok : okS P U := by rw [hu]; exact t1_ok hw ho _
      refine mw_iload_n 0 dX8_passOne_7 rfl ?_
      refine mw_aload_n 1 dX8_passOne_8 rfl ?_
      refine mw_getr 8 0 dX8_passOne_9 fl_X8_52 (by decide) (by decide) rfl (sa_o hs) (sa_r0 hs) ?_
      refine mw_getr 5 0 dX8_passOne_12 fl_X8_71 (by decide) (by decide) rfl (pl_o hp) (pl_r0 hp) ?_
      refine mw_bipush (v := 6) dX8_passOne_15 (by decide) ?_
      refine mw_iaN 6 dX8_passOne_17 (pl_a0 hp) (by decide) (by decide) (by decide) ?_
      refine mw_top (x' := (nI (ct P 6))) ((bk_o (j := 1) hP (Or.inl hd) (by decide)).trans e6) ?_
      refine mw_icmp_ge (tgt := 53) dX8_passOne_18 (by decide) (fun cc => ?_) (fun cc => ?_)
      · have cc := (nI_leI (by omega) (by omega)).mp cc
        refine mw_iconst (v := 0) dX8_passOne_53 rfl ?_
        refine mw_istore_n [(1, .int 0), (0, .ref s)] dX8_passOne_54 (Nat.le_of_ble_eq_true rfl) rfl ?_
        have L55 : ∀ (m55 : Nat) (j : Nat) (U2 : m_V), (j ≤ ct P 4) → (U2 = lo (fun r W => if W 1 r = 3 then (if 0 < W 2 r - 1 then u2 W 2 r (W 2 r - 1) else u2 (u2 W 2 r (W 2 r - 1)) 1 r 0) else W) j U) → ct P 4 - j < m55 → MW (yX8_passOne.cls, cX8_passOne, 2, none, yX8_passOne.name, d + 4, 0, 0) 55 (0, 0) [(1, .int (nI j)), (0, .ref s)] [] (m_bk h s 7 U2 SL) (m_rn (m_bk h s 7 (s_tickV P V) SL)) := by
          intro m55
          induction m55 with
          | zero => intro j U2 _ _ hm55; exact absurd hm55 (Nat.not_lt_zero _)
          | succ m55 ih55 =>
            intro j U2 hj hu2 hm55
            refine mw_iload_n 0 dX8_passOne_55 rfl ?_
            refine mw_aload_n 1 dX8_passOne_56 rfl ?_
            refine mw_getr 8 0 dX8_passOne_57 fl_X8_52 (by decide) (by decide) rfl (sa_o hs) (sa_r0 hs) ?_
            refine mw_getr 5 0 dX8_passOne_60 fl_X8_71 (by decide) (by decide) rfl (pl_o hp) (pl_r0 hp) ?_
            refine mw_iconst (v := 4) dX8_passOne_63 rfl ?_
            refine mw_iaN 4 dX8_passOne_64 (pl_a0 hp) (by decide) (by decide) (by decide) ?_
            refine mw_top (x' := (nI (ct P 4))) ((bk_o (j := 1) hP (Or.inl hd) (by decide)).trans e4) ?_
            refine mw_icmp_ge (tgt := 110) dX8_passOne_65 (by decide) (fun cd => ?_) (fun cd => ?_)
            · have cd := (nI_leI (by omega) (by omega)).mp cd
              refine mw_aload_n 1 dX8_passOne_110 rfl ?_
              refine mw_dup dX8_passOne_111 rfl ?_
              refine mw_geti 8 1 dX8_passOne_112 fl_X8_9 (by decide) (by decide) rfl (sa_o hs) ?_
              refine mw_top (x' := (U2 0 1)) (bk_i (j := 0) (by decide)) ?_
              refine mw_iconst (v := 1) dX8_passOne_115 rfl ?_
              refine mw_iadd dX8_passOne_116 ?_
              refine mw_puti 8 1 dX8_passOne_117 fl_X8_9 (by decide) (by decide) rfl rfl (sa_o hs) ⟨rfl, rfl⟩ ?_
              refine mw_hp (bk_si (j := 0) (by decide)) ?_
              refine mw_return dX8_passOne_120 rfl ⟨rfl, rfl⟩ ?_
              exact ⟨rfl, by rw [s_tickV, s_t2, s_t1, hu2, hu, show i = ct P 6 by omega, show j = ct P 4 by omega]⟩
            · have cd := mt (nI_leI (by omega) (by omega)).mpr cd
              refine mw_aload_n 1 dX8_passOne_68 rfl ?_
              refine mw_getr 8 8 dX8_passOne_69 fl_X8_33 (by decide) (by decide) rfl (sa_o hs) (sa_r8 hs) ?_
              refine mw_iload_n 0 dX8_passOne_72 rfl ?_
              refine mw_iaN j dX8_passOne_73 (sa_a8 hs) (by omega) (by decide) rfl ?_
              refine mw_top (x' := (U2 1 j)) (bk_i (j := 1) (by decide)) ?_
              refine mw_iconst (v := 3) dX8_passOne_74 rfl ?_
              refine mw_icmp_ne (tgt := 104) dX8_passOne_75 (by decide) (fun c75 => ?_) (fun c75 => ?_)
              · refine mw_iinc 0 (nI (j + 1)) [(1, .int (nI (j + 1))), (0, .ref s)] dX8_passOne_104 rfl (nI_1 _) (Nat.le_of_ble_eq_true rfl) rfl ?_
                refine mw_goto (tgt := 55) dX8_passOne_107 (by decide) ?_
                refine ih55 _ _ ?_ ?_ ?_
                · first | omega | rfl | assumption | (simp_all [bo]; done)
                · first | (rw [lo, ← hu2, if_neg c75]; done) | (rw [lo, ← hu2, if_pos c75, if_pos c94]; done) | (rw [lo, ← hu2, if_pos c75, if_neg c94]; done)
                · omega
              · refine mw_aload_n 1 dX8_passOne_78 rfl ?_
                refine mw_getr 8 9 dX8_passOne_79 fl_X8_37 (by decide) (by decide) rfl (sa_o hs) (sa_r9 hs) ?_
                refine mw_iload_n 0 dX8_passOne_82 rfl ?_
                refine mw_dup2 dX8_passOne_83 rfl rfl ?_
                refine mw_iaN j dX8_passOne_84 (sa_a9 hs) (by omega) (by decide) rfl ?_
                refine mw_top (x' := (U2 2 j)) (bk_i (j := 2) (by decide)) ?_
                refine mw_iconst (v := 1) dX8_passOne_85 rfl ?_
                refine mw_isub dX8_passOne_86 ?_
                refine mw_isN j dX8_passOne_87 (sa_a9 hs) (by omega) (by decide) rfl ?_
                refine mw_hp (bk_si (j := 2) (by decide)) ?_
                refine mw_aload_n 1 dX8_passOne_88 rfl ?_
                refine mw_getr 8 9 dX8_passOne_89 fl_X8_37 (by decide) (by decide) rfl (sa_o hs) (sa_r9 hs) ?_
                refine mw_iload_n 0 dX8_passOne_92 rfl ?_
                refine mw_iaN j dX8_passOne_93 (sa_a9 hs) (by omega) (by decide) rfl ?_
                refine mw_top (x' := ((U2 2 j) - 1)) ((bk_i (j := 2) (by decide)).trans (u2_same (V := U2) (j := 2) (k := j) (x := ((U2 2 j) - 1)))) ?_
                refine mw_if_gt (tgt := 104) dX8_passOne_94 (by decide) (fun c94 => ?_) (fun c94 => ?_)
                · refine mw_iinc 0 (nI (j + 1)) [(1, .int (nI (j + 1))), (0, .ref s)] dX8_passOne_104 rfl (nI_1 _) (Nat.le_of_ble_eq_true rfl) rfl ?_
                  refine mw_goto (tgt := 55) dX8_passOne_107 (by decide) ?_
                  refine ih55 _ _ ?_ ?_ ?_
                  · first | omega | rfl | assumption | (simp_all [bo]; done)
                  · first | (rw [lo, ← hu2, if_neg c75]; done) | (rw [lo, ← hu2, if_pos c75, if_pos c94]; done) | (rw [lo, ← hu2, if_pos c75, if_neg c94]; done)
                  · omega
                · refine mw_aload_n 1 dX8_passOne_97 rfl ?_
                  refine mw_getr 8 8 dX8_passOne_98 fl_X8_33 (by decide) (by decide) rfl (sa_o hs) (sa_r8 hs) ?_
                  refine mw_iload_n 0 dX8_passOne_101 rfl ?_
                  refine mw_iconst (v := 0) dX8_passOne_102 rfl ?_
                  refine mw_isN j dX8_passOne_103 (sa_a8 hs) (by omega) (by decide) rfl ?_
                  refine mw_hp (bk_si (j := 1) (by decide)) ?_
                  refine mw_iinc 0 (nI (j + 1)) [(1, .int (nI (j + 1))), (0, .ref s)] dX8_passOne_104 rfl (nI_1 _) (Nat.le_of_ble_eq_true rfl) rfl ?_
                  refine mw_goto (tgt := 55) dX8_passOne_107 (by decide) ?_
                  refine ih55 _ _ ?_ ?_ ?_
                  · first | omega | rfl | assumption | (simp_all [bo]; done)
                  · first | (rw [lo, ← hu2, if_neg c75]; done) | (rw [lo, ← hu2, if_pos c75, if_pos c94]; done) | (rw [lo, ← hu2, if_pos c75, if_neg c94]; done)
                  · omega
        refine L55 _ 0 U ?_ ?_ (Nat.lt_succ_self _)
        · first | omega | rfl | assumption | (simp_all [bo]; done)
        · rfl
      · have cc := mt (nI_leI (by omega) (by omega)).mpr cc
        refine mw_aload_n 1 dX8_passOne_21 rfl ?_
        refine mw_getr 8 11 dX8_passOne_22 fl_X8_43 (by decide) (by decide) rfl (sa_o hs) (sa_r11 hs) ?_
        refine mw_iload_n 0 dX8_passOne_25 rfl ?_
        refine mw_iaN i dX8_passOne_26 (sa_a11 hs) (by omega) (by decide) rfl ?_
        refine mw_top (x' := (U 4 i)) (bk_i (j := 4) (by decide)) ?_
        refine mw_iconst (v := -1) dX8_passOne_27 rfl ?_
        refine mw_icmp_eq (tgt := 47) dX8_passOne_28 (by decide) (fun c28 => ?_) (fun c28 => ?_)
        · refine mw_iinc 0 (nI (i + 1)) [(1, .int (nI (i + 1))), (0, .ref s)] dX8_passOne_47 rfl (nI_1 _) (Nat.le_of_ble_eq_true rfl) rfl ?_
          refine mw_goto (tgt := 7) dX8_passOne_50 (by decide) ?_
          refine ih7 _ _ ?_ ?_ ?_
          · first | omega | rfl | assumption | (simp_all [bo]; done)
          · first | (rw [lo, ← hu, if_pos (Or.inl c28)]; done) | (rw [lo, ← hu, if_pos (Or.inr c39)]; done) | (rw [lo, ← hu, if_neg (fun q => q.elim c28 (fun z => z c39))]; done)
          · omega
        · refine mw_aload_n 1 dX8_passOne_31 rfl ?_
          refine mw_geti 8 6 dX8_passOne_32 fl_X8_27 (by decide) (by decide) rfl (sa_o hs) ?_
          refine mw_top (x' := (U 0 6)) (bk_i (j := 0) (by decide)) ?_
          refine mw_iload_n 0 dX8_passOne_35 rfl ?_
          refine mw_ishr dX8_passOne_36 ?_
          refine mw_iconst (v := 1) dX8_passOne_37 rfl ?_
          refine mw_iand dX8_passOne_38 ?_
          refine mw_if_ne (tgt := 47) dX8_passOne_39 (by decide) (fun c39 => ?_) (fun c39 => ?_)
          · refine mw_iinc 0 (nI (i + 1)) [(1, .int (nI (i + 1))), (0, .ref s)] dX8_passOne_47 rfl (nI_1 _) (Nat.le_of_ble_eq_true rfl) rfl ?_
            refine mw_goto (tgt := 7) dX8_passOne_50 (by decide) ?_
            refine ih7 _ _ ?_ ?_ ?_
            · first | omega | rfl | assumption | (simp_all [bo]; done)
            · first | (rw [lo, ← hu, if_pos (Or.inl c28)]; done) | (rw [lo, ← hu, if_pos (Or.inr c39)]; done) | (rw [lo, ← hu, if_neg (fun q => q.elim c28 (fun z => z c39))]; done)
            · omega
          · obtain ⟨a, ha12, ha⟩ : ∃ a, a < 12 ∧ U 4 i = nI a := ((hok).1 i (by omega)).resolve_left c28
            refine mw_aload_n 1 dX8_passOne_42 rfl ?_
            refine mw_iload_n 0 dX8_passOne_43 rfl ?_
            refine mw_cVv (rest := []) [.int (nI i)] (c_X8_runTrain d (m_bk h s 7 U SL) s _ P _ hs hp bk_I (bk_O hP (Or.inl hd)) hN bk_J hd i a (by omega) ha ha12) mY_X8_runTrain dX8_passOne_44 ml_X8_156 (sa_o hs) rfl rfl (Nat.le_of_ble_eq_true rfl) ⟨Nat.le_refl _, Nat.le_refl _⟩ rfl ?_
            refine mw_hp bk_bk ?_
            refine mw_iinc 0 (nI (i + 1)) [(1, .int (nI (i + 1))), (0, .ref s)] dX8_passOne_47 rfl (nI_1 _) (Nat.le_of_ble_eq_true rfl) rfl ?_
            refine mw_goto (tgt := 7) dX8_passOne_50 (by decide) ?_
            refine ih7 _ _ ?_ ?_ ?_
            · first | omega | rfl | assumption | (simp_all [bo]; done)
            · first | (rw [lo, ← hu, if_pos (Or.inl c28)]; done) | (rw [lo, ← hu, if_pos (Or.inr c39)]; done) | (rw [lo, ← hu, if_neg (fun q => q.elim c28 (fun z => z c39))]; done)
            · omega
  refine L7 _ 0 (u2 V 0 7 0) ?_ ?_ (Nat.lt_succ_self _)
  · first | omega | rfl | assumption | (simp_all [bo]; done)
  · rfl
theorem tk_step {P : m_V} {m : Nat} {V : m_V} (h : ¬ 1000 ≤ V 0 1) : s_tk P (m + 1) V = ((s_tk P m (s_tickV P V)).1 + 1, (s_tk P m (s_tickV P V)).2) := by rw [s_tk, if_neg h]
theorem tk_stop {P : m_V} {m : Nat} {V : m_V} (h : 1000 ≤ V 0 1) : s_tk P m V = (0, V) := by cases m with
  | zero => rfl
  | succ m => rw [s_tk, if_pos h]
set_option maxRecDepth 100000 in
set_option maxHeartbeats 4000000 in
theorem c_X8_passTicks (d : Nat) (h : m_H) (s : Nat) (V P : m_V) (SL : m_L) (hs : isState h.2.2 s) (hp : isPlan h.2.2 4) (hV : blI h s 7 V) (hP : blI h 4 21 P) (hw : wfP P) (hSL : blJ h s 7 SL) (hd : 4 + 21 ≤ s) (ho : okS P V) (n : Nat) (hn : n ≤ 60) : MC yX8_passTicks cX8_passTicks 3 (some .int) (d + 5) 0 0 [.ref s, .int (nI n)] h (m_r (.int (nI (s_tk P n V).1)) (m_bk h s 7 ((s_tk P n V).2) SL)) := by
  have hN := hw.1
  refine mc_of (by decide +kernel) (Nat.le_of_ble_eq_true rfl) ?_
  show MW (yX8_passTicks.cls, cX8_passTicks, 3, (some .int), yX8_passTicks.name, d + 5, 0, 0) 0 (0, 0) [(0, .ref s), (1, .int (nI n))] [] h _
  refine mw_hp (bk_self (n := 7) hV hSL) ?_
  refine mw_iconst (v := 0) dX8_passTicks_0 rfl ?_
  refine mw_istore_n [(2, .int 0), (0, .ref s), (1, .int (nI n))] dX8_passTicks_1 (Nat.le_of_ble_eq_true rfl) rfl ?_
  have L2 : ∀ (m2 : Nat) (i : Nat) (U : m_V), (i ≤ n) → (okS P U) → (s_tk P n V = (i + (s_tk P (n - i) U).1, (s_tk P (n - i) U).2)) → n - i < m2 → MW (yX8_passTicks.cls, cX8_passTicks, 3, (some .int), yX8_passTicks.name, d + 5, 0, 0) 2 (0, 0) [(2, .int (nI i)), (0, .ref s), (1, .int (nI n))] [] (m_bk h s 7 U SL) (m_r (.int (nI (s_tk P n V).1)) (m_bk h s 7 ((s_tk P n V).2) SL)) := by
    intro m2
    induction m2 with
    | zero => intro i U _ _ _ hm2; exact absurd hm2 (Nat.not_lt_zero _)
    | succ m2 ih2 =>
      intro i U hi hok hu hm2
      refine mw_iload_n 0 dX8_passTicks_2 rfl ?_
      refine mw_iload_n 2 dX8_passTicks_3 rfl ?_
      refine mw_icmp_ge (tgt := 27) dX8_passTicks_4 (by decide) (fun cc => ?_) (fun cc => ?_)
      · have cc := (nI_leI (by omega) (by omega)).mp cc
        refine mw_iload_n 0 dX8_passTicks_27 rfl ?_
        refine mw_ireturn dX8_passTicks_28 rfl rfl ⟨rfl, rfl⟩ ?_
        exact ⟨by first | (rw [hu, show n - i = 0 by omega]; rfl) | (rw [hu, tk_stop c14]; rfl), by first | (rw [hu, show n - i = 0 by omega]; rfl) | (rw [hu, tk_stop c14])⟩
      · have cc := mt (nI_leI (by omega) (by omega)).mpr cc
        refine mw_aload_n 1 dX8_passTicks_7 rfl ?_
        refine mw_geti 8 1 dX8_passTicks_8 fl_X8_9 (by decide) (by decide) rfl (sa_o hs) ?_
        refine mw_top (x' := (U 0 1)) (bk_i (j := 0) (by decide)) ?_
        refine mw_sipush (v := 1000) dX8_passTicks_11 (by decide) ?_
        refine mw_icmp_ge (tgt := 27) dX8_passTicks_14 (by decide) (fun c14 => ?_) (fun c14 => ?_)
        · refine mw_iload_n 0 dX8_passTicks_27 rfl ?_
          refine mw_ireturn dX8_passTicks_28 rfl rfl ⟨rfl, rfl⟩ ?_
          exact ⟨by first | (rw [hu, show n - i = 0 by omega]; rfl) | (rw [hu, tk_stop c14]; rfl), by first | (rw [hu, show n - i = 0 by omega]; rfl) | (rw [hu, tk_stop c14])⟩
        · refine mw_aload_n 1 dX8_passTicks_17 rfl ?_
          refine mw_cVv (rest := []) [] (c_X8_passOne d (m_bk h s 7 U SL) s _ P _ hs hp bk_I (bk_O hP (Or.inl hd)) hw bk_J hd hok) mY_X8_passOne dX8_passTicks_18 ml_X8_153 (sa_o hs) rfl rfl (Nat.le_of_ble_eq_true rfl) ⟨Nat.le_refl _, Nat.le_refl _⟩ rfl ?_
          refine mw_hp bk_bk ?_
          refine mw_iinc 0 (nI (i + 1)) [(2, .int (nI (i + 1))), (0, .ref s), (1, .int (nI n))] dX8_passTicks_21 rfl (nI_1 _) (Nat.le_of_ble_eq_true rfl) rfl ?_
          refine mw_goto (tgt := 2) dX8_passTicks_24 (by decide) ?_
          refine ih2 _ _ ?_ ?_ ?_ ?_
          · first | omega | rfl | assumption | (simp_all [bo]; done)
          · exact tickV_ok hw hok
          · rw [hu, show n - i = (n - (i + 1)) + 1 by omega, tk_step c14]; simp only [Nat.add_assoc, Nat.add_comm 1]
          · omega
  refine L2 _ 0 V ?_ ?_ ?_ (Nat.lt_succ_self _)
  · first | omega | rfl | assumption | (simp_all [bo]; done)
  · exact ho
  · simp
set_option maxRecDepth 100000 in
set_option maxHeartbeats 4000000 in
theorem c_X8_stir (d : Nat) (h : m_H) (x : Int32) : MC yX8_stir cX8_stir 1 (some .int) (d + 1) 0 0 [.int x] h (m_r (.int (s_stir x)) h) := by
  refine mc_of (by decide +kernel) (Nat.le_of_ble_eq_true rfl) ?_
  show MW (yX8_stir.cls, cX8_stir, 1, (some .int), yX8_stir.name, d + 1, 0, 0) 0 (0, 0) [(0, .int x)] [] h _
  refine mw_iload_n 0 dX8_stir_0 rfl ?_
  refine mw_ldc dX8_stir_1 cl_X8_210 ?_
  refine mw_imul dX8_stir_3 ?_
  refine mw_sipush (v := 12345) dX8_stir_4 (by decide) ?_
  refine mw_iadd dX8_stir_7 ?_
  refine mw_ireturn dX8_stir_8 rfl rfl ⟨rfl, rfl⟩ ?_
  exact ⟨rfl, rfl⟩
set_option maxRecDepth 100000 in
set_option maxHeartbeats 4000000 in
theorem c_X8_lotOf (d : Nat) (h : m_H) (x c : Int32) : MC yX8_lotOf cX8_lotOf 2 (some .int) (d + 1) 0 0 [.int x, .int c] h (m_r (.int (s_lot x c)) h) := by
  refine mc_of (by decide +kernel) (Nat.le_of_ble_eq_true rfl) ?_
  show MW (yX8_lotOf.cls, cX8_lotOf, 2, (some .int), yX8_lotOf.name, d + 1, 0, 0) 0 (0, 0) [(0, .int x), (1, .int c)] [] h _
  refine mw_iload_n 1 dX8_lotOf_0 rfl ?_
  refine mw_iconst (v := 1) dX8_lotOf_1 rfl ?_
  refine mw_icmp_ge (tgt := 9) dX8_lotOf_2 (by decide) (fun c2 => ?_) (fun c2 => ?_)
  · have c2 : ¬ c < 1 := by rw [i32_lt]; rw [i32_le] at c2; omega
    refine mw_iload_n 0 dX8_lotOf_9 rfl ?_
    refine mw_bipush (v := 8) dX8_lotOf_10 (by decide) ?_
    refine mw_iushr dX8_lotOf_12 ?_
    refine mw_iload_n 1 dX8_lotOf_13 rfl ?_
    refine mw_irem dX8_lotOf_14 (fun e => c2 (by rw [e]; decide)) ?_
    refine mw_ireturn dX8_lotOf_15 rfl rfl ⟨rfl, rfl⟩ ?_
    exact ⟨by first | (rw [s_lot, if_pos c2]) | (rw [s_lot, if_neg c2]; rfl), rfl⟩
  · have c2 : c < 1 := by rw [i32_lt]; rw [i32_le] at c2; omega
    refine mw_iconst (v := 0) dX8_lotOf_5 rfl ?_
    refine mw_goto (tgt := 15) dX8_lotOf_6 (by decide) ?_
    refine mw_ireturn dX8_lotOf_15 rfl rfl ⟨rfl, rfl⟩ ?_
    exact ⟨by first | (rw [s_lot, if_pos c2]) | (rw [s_lot, if_neg c2]; rfl), rfl⟩
set_option maxRecDepth 100000 in
set_option maxHeartbeats 4000000 in
theorem c_X8_actByLot (d : Nat) (h : m_H) (s : Nat) (V P : m_V) (SL : m_L) (hs : isState h.2.2 s) (hp : isPlan h.2.2 4) (hV : blI h s 7 V) (hP : blI h 4 21 P) (hw : wfP P) (hSL : blJ h s 7 SL) (hd : 4 + 21 ≤ s) (ho : okS P V) (lot : Int32) (k : Nat) (h2 : lot = 2 → k < 6) (h1 : ¬ lot = 2 → k < ct P 4) : MC yX8_actByLot cX8_actByLot 3 none (d + 5) 0 0 [.ref s, .int lot, .int (nI k)] h (m_rn (m_bk h s 7 (s_lotV P V lot k) SL)) := by
  have hN := hw.1
  obtain ⟨e4, g4⟩ := hN.2.2.2.2.1
  refine mc_of (by decide +kernel) (Nat.le_of_ble_eq_true rfl) ?_
  show MW (yX8_actByLot.cls, cX8_actByLot, 3, none, yX8_actByLot.name, d + 5, 0, 0) 0 (0, 0) [(0, .ref s), (1, .int lot), (2, .int (nI k))] [] h _
  refine mw_hp (bk_self (n := 7) hV hSL) ?_
  refine mw_iload_n 1 dX8_actByLot_0 rfl ?_
  refine mw_iconst (v := 2) dX8_actByLot_1 rfl ?_
  refine mw_icmp_ne (tgt := 14) dX8_actByLot_2 (by decide) (fun c2 => ?_) (fun c2 => ?_)
  · have hk10 := h1 c2
    obtain ⟨g, hg, hg8⟩ := hw.2.1 k hk10
    refine mw_aload_n 0 dX8_actByLot_14 rfl ?_
    refine mw_getr 8 8 dX8_actByLot_15 fl_X8_33 (by decide) (by decide) rfl (sa_o hs) (sa_r8 hs) ?_
    refine mw_iload_n 2 dX8_actByLot_18 rfl ?_
    refine mw_iaN k dX8_actByLot_19 (sa_a8 hs) (by omega) (by decide) rfl ?_
    refine mw_top (x' := (V 1 k)) (bk_i (j := 1) (by decide)) ?_
    refine mw_iconst (v := 1) dX8_actByLot_20 rfl ?_
    refine mw_icmp_ne (tgt := 33) dX8_actByLot_21 (by decide) (fun c21 => ?_) (fun c21 => ?_)
    · refine mw_aload_n 0 dX8_actByLot_33 rfl ?_
      refine mw_iload_n 2 dX8_actByLot_34 rfl ?_
      refine mw_cV (rest := []) [.int (nI k)] (c_X8_setRoute d (m_bk h s 7 V SL) s _ P _ hs hp bk_I (bk_O hP (Or.inl hd)) hN bk_J hd k (by have := h1 c2; omega)) mY_X8_setRoute dX8_actByLot_35 ml_X8_94 (sa_o hs) rfl rfl (Nat.le_of_ble_eq_true rfl) ⟨Nat.le_refl _, Nat.le_refl _⟩ rfl ?_
      refine mw_hp bk_bk ?_
      refine mw_pop dX8_actByLot_38 rfl ?_
      refine mw_return dX8_actByLot_39 rfl ⟨rfl, rfl⟩ ?_
      exact ⟨rfl, by first | (rw [s_lotV, if_pos c2]) | (rw [s_lotV, if_neg c2, if_pos c21]) | (rw [s_lotV, if_neg c2, if_neg c21])⟩
    · refine mw_aload_n 0 dX8_actByLot_24 rfl ?_
      refine mw_iload_n 2 dX8_actByLot_25 rfl ?_
      refine mw_cV (rest := []) [.int (nI k)] (c_X8_putBack (d + 2) (m_bk h s 7 V SL) s _ P _ hs hp bk_I (bk_O hP (Or.inl hd)) hN bk_J hd k g (by have := h1 c2; omega) hg hg8) mY_X8_putBack dX8_actByLot_26 ml_X8_97 (sa_o hs) rfl rfl (Nat.le_of_ble_eq_true rfl) ⟨Nat.le_refl _, Nat.le_refl _⟩ rfl ?_
      refine mw_hp bk_bk ?_
      refine mw_pop dX8_actByLot_29 rfl ?_
      refine mw_goto (tgt := 39) dX8_actByLot_30 (by decide) ?_
      refine mw_return dX8_actByLot_39 rfl ⟨rfl, rfl⟩ ?_
      exact ⟨rfl, by first | (rw [s_lotV, if_pos c2]) | (rw [s_lotV, if_neg c2, if_pos c21]) | (rw [s_lotV, if_neg c2, if_neg c21])⟩
  · refine mw_aload_n 0 dX8_actByLot_5 rfl ?_
    refine mw_iload_n 2 dX8_actByLot_6 rfl ?_
    refine mw_cV (rest := []) [.int (nI k)] (c_X8_throwPoints (d + 1) (m_bk h s 7 V SL) s _ P _ hs hp bk_I (bk_O hP (Or.inl hd)) hN bk_J hd k (h2 c2)) mY_X8_throwPoints dX8_actByLot_7 ml_X8_100 (sa_o hs) rfl rfl (Nat.le_of_ble_eq_true rfl) ⟨Nat.le_refl _, Nat.le_refl _⟩ rfl ?_
    refine mw_hp bk_bk ?_
    refine mw_pop dX8_actByLot_10 rfl ?_
    refine mw_goto (tgt := 39) dX8_actByLot_11 (by decide) ?_
    refine mw_return dX8_actByLot_39 rfl ⟨rfl, rfl⟩ ?_
    exact ⟨rfl, by first | (rw [s_lotV, if_pos c2]) | (rw [s_lotV, if_neg c2, if_pos c21]) | (rw [s_lotV, if_neg c2, if_neg c21])⟩
