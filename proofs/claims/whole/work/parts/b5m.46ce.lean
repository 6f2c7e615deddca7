set_option maxRecDepth 100000 in
set_option maxHeartbeats 4000000 in
theorem aX7_readOnes (d : Nat) (q : m_S) (hq : isW q)  : AC rI yX7_readOnes cX7_readOnes 3 (some .boolean) (d + 37) [.ref 135, .ref 1, .ref 4] q (fX7_readOnes ) := by
  refine ac_of (by decide +kernel) (Nat.le_of_ble_eq_true rfl) ?_
  unfold fX7_readOnes
  show MF rI (yX7_readOnes.cls, cX7_readOnes, 3, (some .boolean), yX7_readOnes.name, d + 37, 0, 0) 0 [(0, .ref 135), (1, .ref 1), (2, .ref 4)] [] q _
  refine mf_aload_n 1 dX7_readOnes_0 rfl ?_
  refine mf_sipush (v := 200) dX7_readOnes_1 (by decide) ?_
  refine mf_cVv (rest := []) [.int 200] (aX10_begin (d + 35) q hq 200) mY_X10_begin dX7_readOnes_4 ml_X7_39 (tx_o (w_tx hq)) rfl rfl (Nat.le_of_ble_eq_true rfl) rfl (fun _ => ?_)
  refine mf_aload_n 0 dX7_readOnes_7 rfl ?_
  refine mf_iconst (v := 0) dX7_readOnes_8 rfl ?_
  refine mf_puti 7 1 dX7_readOnes_9 fl_X7_15 (by decide) (by decide) rfl rfl (se_o (w_se hq se135)) ?_
  refine mf_aload_n 0 dX7_readOnes_12 rfl ?_
  refine mf_iconst (v := 0) dX7_readOnes_13 rfl ?_
  refine mf_puti 7 2 dX7_readOnes_14 fl_X7_19 (by decide) (by decide) rfl rfl (se_o (w_se hq se135)) ?_
  refine mf_aload_n 0 dX7_readOnes_17 rfl ?_
  refine mf_iconst (v := 0) dX7_readOnes_18 rfl ?_
  refine mf_putzc 7 0 dX7_readOnes_19 fl_X7_9 (by decide) (by decide) rfl rfl (se_o (w_se hq se135)) (by decide) ?_
  refine mf_aload_n 1 dX7_readOnes_22 rfl ?_
  refine mf_cVv (rest := []) [] (aX10_next (d + 33) q hq) mY_X10_next dX7_readOnes_23 ml_X7_45 (tx_o (w_tx hq)) rfl rfl (Nat.le_of_ble_eq_true rfl) rfl (fun _ => ?_)
  refine mf_aload_n 0 dX7_readOnes_26 rfl ?_
  refine mf_aload_n 1 dX7_readOnes_27 rfl ?_
  refine mf_aload_n 2 dX7_readOnes_28 rfl ?_
  refine mf_iconst (v := 1) dX7_readOnes_29 rfl ?_
  refine mf_cVi (rest := []) [.ref 1, .ref 4, .int 1] (aX7_readCond (d + 0) q hq 1) mY_X7_readCond dX7_readOnes_30 ml_X7_48 (se_o (w_se hq se135)) rfl rfl (Nat.le_of_ble_eq_true rfl) rfl (fun v1 => ?_)
  refine mf_if_ne (tgt := 38) dX7_readOnes_33 (by decide) ?_ ?_
  · refine mf_aload_n 1 dX7_readOnes_38 rfl ?_
    refine mf_geti 10 4 dX7_readOnes_39 fl_X7_52 (by decide) (by decide) rfl (tx_o (w_tx hq)) (fun v2 => ?_)
    refine mf_if_eq (tgt := 51) dX7_readOnes_42 (by decide) ?_ ?_
    · refine mf_aload_n 0 dX7_readOnes_51 rfl ?_
      refine mf_iconst (v := 1) dX7_readOnes_52 rfl ?_
      refine mf_putzc 7 0 dX7_readOnes_53 fl_X7_9 (by decide) (by decide) rfl rfl (se_o (w_se hq se135)) (by decide) ?_
      refine mf_iconst (v := 1) dX7_readOnes_56 rfl ?_
      exact mf_ireturn dX7_readOnes_57 rfl rfl ⟨rfl, rfl⟩
    · refine mf_aload_n 1 dX7_readOnes_45 rfl ?_
      refine mf_iconst (v := 1) dX7_readOnes_46 rfl ?_
      refine mf_cVi (rest := []) [.int 1] (aX10_wrong (d + 35) q hq 1) mY_X10_wrong dX7_readOnes_47 ml_X7_55 (tx_o (w_tx hq)) rfl rfl (Nat.le_of_ble_eq_true rfl) rfl (fun v3 => ?_)
      exact mf_zreturn dX7_readOnes_50 rfl ⟨rfl, rfl⟩
  · refine mf_iconst (v := 0) dX7_readOnes_36 rfl ?_
    exact mf_ireturn dX7_readOnes_37 rfl rfl ⟨rfl, rfl⟩
set_option maxRecDepth 100000 in
set_option maxHeartbeats 4000000 in
theorem aX7_compares (d : Nat) (q : m_S) (hq : isW q) (a1 : Int32) (a2 : Int32) : AC rI yX7_compares cX7_compares 3 (some .boolean) (d + 1) [.ref 130, .int a1, .int a2] q (fX7_compares a1 a2) := by
  refine ac_of (by decide +kernel) (Nat.le_of_ble_eq_true rfl) ?_
  unfold fX7_compares
  show MF rI (yX7_compares.cls, cX7_compares, 3, (some .boolean), yX7_compares.name, d + 1, 0, 0) 0 [(0, .ref 130), (1, .int a1), (2, .int a2)] [] q _
  refine mf_aload_n 0 dX7_compares_0 rfl ?_
  refine mf_getr 7 5 dX7_compares_1 fl_X7_29 (by decide) (by decide) rfl (se_o (w_se hq se130)) (se_r5 (w_se hq se130)) (by decide) ?_
  refine mf_iload_n 2 dX7_compares_4 rfl ?_
  refine mf_iald dX7_compares_5 (se_a5 (w_se hq se130)) (fun v1 => ?_)
  refine mf_bipush (v := 60) dX7_compares_6 (by decide) ?_
  refine mf_icmp_ne (tgt := 27) dX7_compares_8 (by decide) ?_ ?_
  · refine mf_aload_n 0 dX7_compares_27 rfl ?_
    refine mf_getr 7 5 dX7_compares_28 fl_X7_29 (by decide) (by decide) rfl (se_o (w_se hq se130)) (se_r5 (w_se hq se130)) (by decide) ?_
    refine mf_iload_n 2 dX7_compares_31 rfl ?_
    refine mf_iald dX7_compares_32 (se_a5 (w_se hq se130)) (fun v2 => ?_)
    refine mf_bipush (v := 62) dX7_compares_33 (by decide) ?_
    refine mf_icmp_ne (tgt := 56) dX7_compares_35 (by decide) ?_ ?_
    · refine mf_iload_n 1 dX7_compares_56 rfl ?_
      refine mf_aload_n 0 dX7_compares_57 rfl ?_
      refine mf_getr 7 4 dX7_compares_58 fl_X7_26 (by decide) (by decide) rfl (se_o (w_se hq se130)) (se_r4 (w_se hq se130)) (by decide) ?_
      refine mf_iload_n 2 dX7_compares_61 rfl ?_
      refine mf_iald dX7_compares_62 (se_a4 (w_se hq se130)) (fun v3 => ?_)
      refine mf_icmp_ne (tgt := 70) dX7_compares_63 (by decide) ?_ ?_
      · refine mf_iconst (v := 0) dX7_compares_70 rfl ?_
        exact mf_ireturn dX7_compares_71 rfl rfl ⟨rfl, rfl⟩
      · refine mf_iconst (v := 1) dX7_compares_66 rfl ?_
        refine mf_goto (tgt := 71) dX7_compares_67 (by decide) ?_
        exact mf_ireturn dX7_compares_71 rfl rfl ⟨rfl, rfl⟩
    · refine mf_iload_n 1 dX7_compares_38 rfl ?_
      refine mf_aload_n 0 dX7_compares_39 rfl ?_
      refine mf_getr 7 4 dX7_compares_40 fl_X7_26 (by decide) (by decide) rfl (se_o (w_se hq se130)) (se_r4 (w_se hq se130)) (by decide) ?_
      refine mf_iload_n 2 dX7_compares_43 rfl ?_
      refine mf_iald dX7_compares_44 (se_a4 (w_se hq se130)) (fun v4 => ?_)
      refine mf_icmp_le (tgt := 52) dX7_compares_45 (by decide) ?_ ?_
      · refine mf_iconst (v := 0) dX7_compares_52 rfl ?_
        refine mf_goto (tgt := 71) dX7_compares_53 (by decide) ?_
        exact mf_ireturn dX7_compares_71 rfl rfl ⟨rfl, rfl⟩
      · refine mf_iconst (v := 1) dX7_compares_48 rfl ?_
        refine mf_goto (tgt := 71) dX7_compares_49 (by decide) ?_
        exact mf_ireturn dX7_compares_71 rfl rfl ⟨rfl, rfl⟩
  · refine mf_iload_n 1 dX7_compares_11 rfl ?_
    refine mf_aload_n 0 dX7_compares_12 rfl ?_
    refine mf_getr 7 4 dX7_compares_13 fl_X7_26 (by decide) (by decide) rfl (se_o (w_se hq se130)) (se_r4 (w_se hq se130)) (by decide) ?_
    refine mf_iload_n 2 dX7_compares_16 rfl ?_
    refine mf_iald dX7_compares_17 (se_a4 (w_se hq se130)) (fun v5 => ?_)
    refine mf_icmp_ge (tgt := 25) dX7_compares_18 (by decide) ?_ ?_
    · refine mf_iconst (v := 0) dX7_compares_25 rfl ?_
      exact mf_ireturn dX7_compares_26 rfl rfl ⟨rfl, rfl⟩
    · refine mf_iconst (v := 1) dX7_compares_21 rfl ?_
      refine mf_goto (tgt := 26) dX7_compares_22 (by decide) ?_
      exact mf_ireturn dX7_compares_26 rfl rfl ⟨rfl, rfl⟩
set_option maxRecDepth 100000 in
set_option maxHeartbeats 4000000 in
theorem aX7_isTrueOf (d : Nat) (q : m_S) (hq : isW q) (a1 : Int32) (a2 : Int32) : AC rI yX7_isTrueOf cX7_isTrueOf 4 (some .boolean) (d + 2) [.ref 130, .ref 47, .int a1, .int a2] q (fX7_isTrueOf a1 a2) := by
  refine ac_of (by decide +kernel) (Nat.le_of_ble_eq_true rfl) ?_
  unfold fX7_isTrueOf
  show MF rI (yX7_isTrueOf.cls, cX7_isTrueOf, 4, (some .boolean), yX7_isTrueOf.name, d + 2, 0, 0) 0 [(0, .ref 130), (1, .ref 47), (2, .int a1), (3, .int a2)] [] q _
  refine mf_aload_n 0 dX7_isTrueOf_0 rfl ?_
  refine mf_getr 7 3 dX7_isTrueOf_1 fl_X7_22 (by decide) (by decide) rfl (se_o (w_se hq se130)) (se_r3 (w_se hq se130)) (by decide) ?_
  refine mf_iload_n 2 dX7_isTrueOf_4 rfl ?_
  refine mf_iald dX7_isTrueOf_5 (se_a3 (w_se hq se130)) (fun v1 => ?_)
  refine mf_case (v := 27) (tgt := 36) (off := 30) dX7_isTrueOf_6 (by decide) (by decide) (by decide) (by decide) ?_ (fun t6_0 => ?_)
  · refine mf_aload_n 1 dX7_isTrueOf_36 rfl ?_
    refine mf_getr 8 11 dX7_isTrueOf_37 fl_X7_118 (by decide) (by decide) rfl (sa_o (w_st hq st47)) (sa_r11 (w_st hq st47)) (by decide) ?_
    refine mf_iload_n 3 dX7_isTrueOf_40 rfl ?_
    refine mf_iald dX7_isTrueOf_41 (sa_a11 (w_st hq st47)) (fun v2 => ?_)
    refine mf_aload_n 0 dX7_isTrueOf_42 rfl ?_
    refine mf_getr 7 4 dX7_isTrueOf_43 fl_X7_26 (by decide) (by decide) rfl (se_o (w_se hq se130)) (se_r4 (w_se hq se130)) (by decide) ?_
    refine mf_iload_n 2 dX7_isTrueOf_46 rfl ?_
    refine mf_iald dX7_isTrueOf_47 (se_a4 (w_se hq se130)) (fun v3 => ?_)
    refine mf_icmp_ne (tgt := 55) dX7_isTrueOf_48 (by decide) ?_ ?_
    · refine mf_iconst (v := 0) dX7_isTrueOf_55 rfl ?_
      exact mf_ireturn dX7_isTrueOf_56 rfl rfl ⟨rfl, rfl⟩
    · refine mf_iconst (v := 1) dX7_isTrueOf_51 rfl ?_
      refine mf_goto (tgt := 56) dX7_isTrueOf_52 (by decide) ?_
      exact mf_ireturn dX7_isTrueOf_56 rfl rfl ⟨rfl, rfl⟩
  refine mf_case (v := 28) (tgt := 57) (off := 51) dX7_isTrueOf_6 (by decide) (by decide) (by decide) (by decide) ?_ (fun t6_1 => ?_)
  · refine mf_aload_n 1 dX7_isTrueOf_57 rfl ?_
    refine mf_iload_n 3 dX7_isTrueOf_58 rfl ?_
    refine mf_cVi (rest := []) [.int a2] (aX8_routesUsedBy (d + 0) q hq 47 a2 st47) mY_X8_routesUsedBy dX7_isTrueOf_59 ml_X7_121 (sa_o (w_st hq st47)) rfl rfl (Nat.le_of_ble_eq_true rfl) rfl (fun v4 => ?_)
    refine mf_aload_n 0 dX7_isTrueOf_62 rfl ?_
    refine mf_getr 7 4 dX7_isTrueOf_63 fl_X7_26 (by decide) (by decide) rfl (se_o (w_se hq se130)) (se_r4 (w_se hq se130)) (by decide) ?_
    refine mf_iload_n 2 dX7_isTrueOf_66 rfl ?_
    refine mf_iald dX7_isTrueOf_67 (se_a4 (w_se hq se130)) (fun v5 => ?_)
    refine mf_ishr dX7_isTrueOf_68 ?_
    refine mf_iconst (v := 1) dX7_isTrueOf_69 rfl ?_
    refine mf_iand dX7_isTrueOf_70 ?_
    refine mf_iconst (v := 1) dX7_isTrueOf_71 rfl ?_
    refine mf_icmp_ne (tgt := 79) dX7_isTrueOf_72 (by decide) ?_ ?_
    · refine mf_iconst (v := 0) dX7_isTrueOf_79 rfl ?_
      exact mf_ireturn dX7_isTrueOf_80 rfl rfl ⟨rfl, rfl⟩
    · refine mf_iconst (v := 1) dX7_isTrueOf_75 rfl ?_
      refine mf_goto (tgt := 80) dX7_isTrueOf_76 (by decide) ?_
      exact mf_ireturn dX7_isTrueOf_80 rfl rfl ⟨rfl, rfl⟩
  refine mf_case (v := 29) (tgt := 81) (off := 75) dX7_isTrueOf_6 (by decide) (by decide) (by decide) (by decide) ?_ (fun t6_2 => ?_)
  · refine mf_aload_n 0 dX7_isTrueOf_81 rfl ?_
    refine mf_aload_n 1 dX7_isTrueOf_82 rfl ?_
    refine mf_getr 8 12 dX7_isTrueOf_83 fl_X7_125 (by decide) (by decide) rfl (sa_o (w_st hq st47)) (sa_r12 (w_st hq st47)) (by decide) ?_
    refine mf_iload_n 3 dX7_isTrueOf_86 rfl ?_
    refine mf_iald dX7_isTrueOf_87 (sa_a12 (w_st hq st47)) (fun v6 => ?_)
    refine mf_iload_n 2 dX7_isTrueOf_88 rfl ?_
    refine mf_cVi (rest := []) [.int v6, .int a1] (aX7_compares (d + 0) q hq v6 a1) mY_X7_compares dX7_isTrueOf_89 ml_X7_128 (se_o (w_se hq se130)) rfl rfl (Nat.le_of_ble_eq_true rfl) rfl (fun v7 => ?_)
    exact mf_zreturn dX7_isTrueOf_92 rfl ⟨rfl, rfl⟩
  refine mf_case (v := 30) (tgt := 93) (off := 87) dX7_isTrueOf_6 (by decide) (by decide) (by decide) (by decide) ?_ (fun t6_3 => ?_)
  · refine mf_aload_n 0 dX7_isTrueOf_93 rfl ?_
    refine mf_aload_n 1 dX7_isTrueOf_94 rfl ?_
    refine mf_getr 8 13 dX7_isTrueOf_95 fl_X7_132 (by decide) (by decide) rfl (sa_o (w_st hq st47)) (sa_r13 (w_st hq st47)) (by decide) ?_
    refine mf_iload_n 3 dX7_isTrueOf_98 rfl ?_
    refine mf_iald dX7_isTrueOf_99 (sa_a13 (w_st hq st47)) (fun v8 => ?_)
    refine mf_iload_n 2 dX7_isTrueOf_100 rfl ?_
    refine mf_cVi (rest := []) [.int v8, .int a1] (aX7_compares (d + 0) q hq v8 a1) mY_X7_compares dX7_isTrueOf_101 ml_X7_128 (se_o (w_se hq se130)) rfl rfl (Nat.le_of_ble_eq_true rfl) rfl (fun v9 => ?_)
    exact mf_zreturn dX7_isTrueOf_104 rfl ⟨rfl, rfl⟩
  refine mf_dflt (tgt := 105) dX7_isTrueOf_6 (by have := lv_neT t6_0 (a := 27) (by decide); have := lv_neT t6_1 (a := 28) (by decide); have := lv_neT t6_2 (a := 29) (by decide); have := lv_neT t6_3 (a := 30) (by decide); omega) (by decide) ?_
  refine mf_aload_n 0 dX7_isTrueOf_105 rfl ?_
  refine mf_iload_n 3 dX7_isTrueOf_106 rfl ?_
  refine mf_iload_n 2 dX7_isTrueOf_107 rfl ?_
  refine mf_cVi (rest := []) [.int a2, .int a1] (aX7_compares (d + 0) q hq a2 a1) mY_X7_compares dX7_isTrueOf_108 ml_X7_128 (se_o (w_se hq se130)) rfl rfl (Nat.le_of_ble_eq_true rfl) rfl (fun v10 => ?_)
  exact mf_zreturn dX7_isTrueOf_111 rfl ⟨rfl, rfl⟩
set_option maxRecDepth 100000 in
set_option maxHeartbeats 4000000 in
theorem aX7_trainsOfStep (d : Nat) (q : m_S) (hq : isW q) (a1 : Int32) : AC rI yX7_trainsOfStep cX7_trainsOfStep 6 (some .int) (d + 3) [.ref 130, .ref 4, .ref 47, .int a1] q (fX7_trainsOfStep a1) := by
  refine ac_of (by decide +kernel) (Nat.le_of_ble_eq_true rfl) ?_
  unfold fX7_trainsOfStep
  show MF rI (yX7_trainsOfStep.cls, cX7_trainsOfStep, 6, (some .int), yX7_trainsOfStep.name, d + 3, 0, 0) 0 [(0, .ref 130), (1, .ref 4), (2, .ref 47), (3, .int a1)] [] q _
  refine mf_aload_n 0 dX7_trainsOfStep_0 rfl ?_
  refine mf_getr 7 3 dX7_trainsOfStep_1 fl_X7_22 (by decide) (by decide) rfl (se_o (w_se hq se130)) (se_r3 (w_se hq se130)) (by decide) ?_
  refine mf_iload_n 3 dX7_trainsOfStep_4 rfl ?_
  refine mf_iald dX7_trainsOfStep_5 (se_a3 (w_se hq se130)) (fun v1 => ?_)
  refine mf_case (v := 24) (tgt := 32) (off := 26) dX7_trainsOfStep_6 (by decide) (by decide) (by decide) (by decide) ?_ (fun t6_0 => ?_)
  · refine mf_aload_n 2 dX7_trainsOfStep_32 rfl ?_
    refine mf_cVi (rest := []) [] (aX8_trainsOut (d + 1) q hq 47 st47) mY_X8_trainsOut dX7_trainsOfStep_33 ml_X7_102 (sa_o (w_st hq st47)) rfl rfl (Nat.le_of_ble_eq_true rfl) rfl (fun v2 => ?_)
    exact mf_ireturn dX7_trainsOfStep_36 rfl rfl ⟨rfl, rfl⟩
  refine mf_case (v := 25) (tgt := 37) (off := 31) dX7_trainsOfStep_6 (by decide) (by decide) (by decide) (by decide) ?_ (fun t6_1 => ?_)
  · refine mf_aload_n 2 dX7_trainsOfStep_37 rfl ?_
    refine mf_geti 8 6 dX7_trainsOfStep_38 fl_X7_108 (by decide) (by decide) rfl (sa_o (w_st hq st47)) (fun v3 => ?_)
    exact mf_ireturn dX7_trainsOfStep_41 rfl rfl ⟨rfl, rfl⟩
  refine mf_case (v := 26) (tgt := 42) (off := 36) dX7_trainsOfStep_6 (by decide) (by decide) (by decide) (by decide) ?_ (fun t6_2 => ?_)
  · refine mf_aload_n 2 dX7_trainsOfStep_42 rfl ?_
    refine mf_geti 8 7 dX7_trainsOfStep_43 fl_X7_111 (by decide) (by decide) rfl (sa_o (w_st hq st47)) (fun v4 => ?_)
    exact mf_ireturn dX7_trainsOfStep_46 rfl rfl ⟨rfl, rfl⟩
  refine mf_dflt (tgt := 47) dX7_trainsOfStep_6 (by have := lv_neT t6_0 (a := 24) (by decide); have := lv_neT t6_1 (a := 25) (by decide); have := lv_neT t6_2 (a := 26) (by decide); omega) (by decide) ?_
  refine mf_iconst (v := 0) dX7_trainsOfStep_47 rfl ?_
  refine mf_istore [(4, .int 0), (0, .ref 130), (1, .ref 4), (2, .ref 47), (3, .int a1)] dX7_trainsOfStep_48 (Nat.le_of_ble_eq_true rfl) rfl ?_
  refine mf_iconst (v := 0) dX7_trainsOfStep_50 rfl ?_
  refine mf_istore [(5, .int 0), (4, .int 0), (0, .ref 130), (1, .ref 4), (2, .ref 47), (3, .int a1)] dX7_trainsOfStep_51 (Nat.le_of_ble_eq_true rfl) rfl ?_
  refine mf_sub [2, 3, 4, 5, 1, 0] rfl ?_
  refine mf_lz2 (lv := fun x5 x6 => [(0, .ref 130), (1, .ref 4), (2, .ref 47), (3, .int a1), (4, .int x5), (5, .int x6)]) (fun L53 h53 x5 x6 => ?_) _ _ _
  show MF rI (yX7_trainsOfStep.cls, cX7_trainsOfStep, 6, (some .int), yX7_trainsOfStep.name, d + 3, 0, 0) 53 [(0, .ref 130), (1, .ref 4), (2, .ref 47), (3, .int a1), (4, .int x5), (5, .int x6)] [] q _
  refine mf_iload 5 dX7_trainsOfStep_53 rfl ?_
  refine mf_aload_n 1 dX7_trainsOfStep_55 rfl ?_
  refine mf_getr 5 0 dX7_trainsOfStep_56 fl_X7_93 (by decide) (by decide) rfl (pl_o (w_pl hq pl4)) (pl_r0 (w_pl hq pl4)) (by decide) ?_
  refine mf_bipush (v := 6) dX7_trainsOfStep_59 (by decide) ?_
  refine mf_iald dX7_trainsOfStep_61 (pl_a0 (w_pl hq pl4)) (fun v7 => ?_)
  refine mf_icmp_ge (tgt := 91) dX7_trainsOfStep_62 (by decide) ?_ ?_
  · refine mf_iload 4 dX7_trainsOfStep_91 rfl ?_
    exact mf_ireturn dX7_trainsOfStep_93 rfl rfl ⟨rfl, rfl⟩
  · refine mf_aload_n 0 dX7_trainsOfStep_65 rfl ?_
    refine mf_aload_n 2 dX7_trainsOfStep_66 rfl ?_
    refine mf_iload_n 3 dX7_trainsOfStep_67 rfl ?_
    refine mf_iload 5 dX7_trainsOfStep_68 rfl ?_
    refine mf_cVi (rest := []) [.ref 47, .int a1, .int x6] (aX7_isTrueOf (d + 0) q hq a1 x6) mY_X7_isTrueOf dX7_trainsOfStep_70 ml_X7_114 (se_o (w_se hq se130)) rfl rfl (Nat.le_of_ble_eq_true rfl) rfl (fun v8 => ?_)
    refine mf_if_eq (tgt := 85) dX7_trainsOfStep_73 (by decide) ?_ ?_
    · refine mf_iinc 5 (x6 + 1) [(5, .int (x6 + 1)), (0, .ref 130), (1, .ref 4), (2, .ref 47), (3, .int a1), (4, .int x5)] dX7_trainsOfStep_85 rfl rfl (Nat.le_of_ble_eq_true rfl) rfl ?_
      refine mf_goto (tgt := 53) dX7_trainsOfStep_88 (by decide) ?_
      refine mf_sub [1, 2, 3, 4, 5, 0] rfl ?_
      exact h53 _ _
    · refine mf_iload 4 dX7_trainsOfStep_76 rfl ?_
      refine mf_iconst (v := 1) dX7_trainsOfStep_78 rfl ?_
      refine mf_iload 5 dX7_trainsOfStep_79 rfl ?_
      refine mf_ishl dX7_trainsOfStep_81 ?_
      refine mf_ior dX7_trainsOfStep_82 ?_
      refine mf_istore [(4, .int (x5 ||| (1 <<< (x6 &&& 31)))), (0, .ref 130), (1, .ref 4), (2, .ref 47), (3, .int a1), (5, .int x6)] dX7_trainsOfStep_83 (Nat.le_of_ble_eq_true rfl) rfl ?_
      refine mf_iinc 5 (x6 + 1) [(5, .int (x6 + 1)), (4, .int (x5 ||| (1 <<< (x6 &&& 31)))), (0, .ref 130), (1, .ref 4), (2, .ref 47), (3, .int a1)] dX7_trainsOfStep_85 rfl rfl (Nat.le_of_ble_eq_true rfl) rfl ?_
      refine mf_goto (tgt := 53) dX7_trainsOfStep_88 (by decide) ?_
      refine mf_sub [2, 3, 4, 5, 1, 0] rfl ?_
      exact h53 _ _
set_option maxRecDepth 100000 in
set_option maxHeartbeats 4000000 in
theorem aX7_trainsFitting (d : Nat) (q : m_S) (hq : isW q)  : AC rI yX7_trainsFitting cX7_trainsFitting 6 (some .int) (d + 4) [.ref 130, .ref 4, .ref 47] q (fX7_trainsFitting ) := by
  refine ac_of (by decide +kernel) (Nat.le_of_ble_eq_true rfl) ?_
  unfold fX7_trainsFitting
  show MF rI (yX7_trainsFitting.cls, cX7_trainsFitting, 6, (some .int), yX7_trainsFitting.name, d + 4, 0, 0) 0 [(0, .ref 130), (1, .ref 4), (2, .ref 47)] [] q _
  refine mf_iconst (v := 1) dX7_trainsFitting_0 rfl ?_
  refine mf_aload_n 1 dX7_trainsFitting_1 rfl ?_
  refine mf_getr 5 0 dX7_trainsFitting_2 fl_X7_93 (by decide) (by decide) rfl (pl_o (w_pl hq pl4)) (pl_r0 (w_pl hq pl4)) (by decide) ?_
  refine mf_bipush (v := 6) dX7_trainsFitting_5 (by decide) ?_
  refine mf_iald dX7_trainsFitting_7 (pl_a0 (w_pl hq pl4)) (fun v1 => ?_)
  refine mf_ishl dX7_trainsFitting_8 ?_
  refine mf_iconst (v := 1) dX7_trainsFitting_9 rfl ?_
  refine mf_isub dX7_trainsFitting_10 ?_
  refine mf_istore_n [(3, .int ((1 <<< (v1 &&& 31)) - 1)), (0, .ref 130), (1, .ref 4), (2, .ref 47)] dX7_trainsFitting_11 (Nat.le_of_ble_eq_true rfl) rfl ?_
  refine mf_iconst (v := 0) dX7_trainsFitting_12 rfl ?_
  refine mf_istore [(4, .int 0), (3, .int ((1 <<< (v1 &&& 31)) - 1)), (0, .ref 130), (1, .ref 4), (2, .ref 47)] dX7_trainsFitting_13 (Nat.le_of_ble_eq_true rfl) rfl ?_
  refine mf_iconst (v := 0) dX7_trainsFitting_15 rfl ?_
  refine mf_istore [(5, .int 0), (4, .int 0), (3, .int ((1 <<< (v1 &&& 31)) - 1)), (0, .ref 130), (1, .ref 4), (2, .ref 47)] dX7_trainsFitting_16 (Nat.le_of_ble_eq_true rfl) rfl ?_
  refine mf_sub [3, 4, 5, 2, 1, 0] rfl ?_
  refine mf_lz2 (lv := fun x2 x3 => [(0, .ref 130), (1, .ref 4), (2, .ref 47), (3, .int ((1 <<< (v1 &&& 31)) - 1)), (4, .int x2), (5, .int x3)]) (fun L18 h18 x2 x3 => ?_) _ _ _
  show MF rI (yX7_trainsFitting.cls, cX7_trainsFitting, 6, (some .int), yX7_trainsFitting.name, d + 4, 0, 0) 18 [(0, .ref 130), (1, .ref 4), (2, .ref 47), (3, .int ((1 <<< (v1 &&& 31)) - 1)), (4, .int x2), (5, .int x3)] [] q _
  refine mf_iload 5 dX7_trainsFitting_18 rfl ?_
  refine mf_aload_n 0 dX7_trainsFitting_20 rfl ?_
  refine mf_geti 7 2 dX7_trainsFitting_21 fl_X7_19 (by decide) (by decide) rfl (se_o (w_se hq se130)) (fun v4 => ?_)
  refine mf_icmp_ge (tgt := 190) dX7_trainsFitting_24 (by decide) ?_ ?_
  · refine mf_aload_n 0 dX7_trainsFitting_190 rfl ?_
    refine mf_getr 7 6 dX7_trainsFitting_191 fl_X7_32 (by decide) (by decide) rfl (se_o (w_se hq se130)) (se_r6 (w_se hq se130)) (by decide) ?_
    refine mf_iconst (v := 0) dX7_trainsFitting_194 rfl ?_
    refine mf_iald dX7_trainsFitting_195 (se_a6 (w_se hq se130)) (fun v5 => ?_)
    exact mf_ireturn dX7_trainsFitting_196 rfl rfl ⟨rfl, rfl⟩
  · refine mf_aload_n 0 dX7_trainsFitting_27 rfl ?_
    refine mf_getr 7 3 dX7_trainsFitting_28 fl_X7_22 (by decide) (by decide) rfl (se_o (w_se hq se130)) (se_r3 (w_se hq se130)) (by decide) ?_
    refine mf_iload 5 dX7_trainsFitting_31 rfl ?_
    refine mf_iald dX7_trainsFitting_33 (se_a3 (w_se hq se130)) (fun v6 => ?_)
    refine mf_bipush (v := 23) dX7_trainsFitting_34 (by decide) ?_
    refine mf_jo0 (pj := 70) (lvj := [(0, .ref 130), (1, .ref 4), (2, .ref 47), (3, .int ((1 <<< (v1 &&& 31)) - 1)), (4, .int x2), (5, .int x3)]) (stj := []) ?_ (fun J70 hJ70 => ?_)
    · show MF rI (yX7_trainsFitting.cls, cX7_trainsFitting, 6, (some .int), yX7_trainsFitting.name, d + 4, 0, 0) 70 [(0, .ref 130), (1, .ref 4), (2, .ref 47), (3, .int ((1 <<< (v1 &&& 31)) - 1)), (4, .int x2), (5, .int x3)] [] q _
      refine mf_aload_n 0 dX7_trainsFitting_70 rfl ?_
      refine mf_getr 7 3 dX7_trainsFitting_71 fl_X7_22 (by decide) (by decide) rfl (se_o (w_se hq se130)) (se_r3 (w_se hq se130)) (by decide) ?_
      refine mf_iload 5 dX7_trainsFitting_74 rfl ?_
      refine mf_iald dX7_trainsFitting_76 (se_a3 (w_se hq se130)) (fun v7 => ?_)
      refine mf_bipush (v := 22) dX7_trainsFitting_77 (by decide) ?_
      refine mf_jo0 (pj := 113) (lvj := [(0, .ref 130), (1, .ref 4), (2, .ref 47), (3, .int ((1 <<< (v1 &&& 31)) - 1)), (4, .int x2), (5, .int x3)]) (stj := []) ?_ (fun J113 hJ113 => ?_)
      · show MF rI (yX7_trainsFitting.cls, cX7_trainsFitting, 6, (some .int), yX7_trainsFitting.name, d + 4, 0, 0) 113 [(0, .ref 130), (1, .ref 4), (2, .ref 47), (3, .int ((1 <<< (v1 &&& 31)) - 1)), (4, .int x2), (5, .int x3)] [] q _
        refine mf_aload_n 0 dX7_trainsFitting_113 rfl ?_
        refine mf_getr 7 3 dX7_trainsFitting_114 fl_X7_22 (by decide) (by decide) rfl (se_o (w_se hq se130)) (se_r3 (w_se hq se130)) (by decide) ?_
        refine mf_iload 5 dX7_trainsFitting_117 rfl ?_
        refine mf_iald dX7_trainsFitting_119 (se_a3 (w_se hq se130)) (fun v8 => ?_)
        refine mf_bipush (v := 21) dX7_trainsFitting_120 (by decide) ?_
        refine mf_jo0 (pj := 156) (lvj := [(0, .ref 130), (1, .ref 4), (2, .ref 47), (3, .int ((1 <<< (v1 &&& 31)) - 1)), (4, .int x2), (5, .int x3)]) (stj := []) ?_ (fun J156 hJ156 => ?_)
        · show MF rI (yX7_trainsFitting.cls, cX7_trainsFitting, 6, (some .int), yX7_trainsFitting.name, d + 4, 0, 0) 156 [(0, .ref 130), (1, .ref 4), (2, .ref 47), (3, .int ((1 <<< (v1 &&& 31)) - 1)), (4, .int x2), (5, .int x3)] [] q _
          refine mf_iload 4 dX7_trainsFitting_156 rfl ?_
          refine mf_aload_n 0 dX7_trainsFitting_158 rfl ?_
          refine mf_getr 7 6 dX7_trainsFitting_159 fl_X7_32 (by decide) (by decide) rfl (se_o (w_se hq se130)) (se_r6 (w_se hq se130)) (by decide) ?_
          refine mf_alen (t := 0) (by decide) dX7_trainsFitting_162 (se_a6 (w_se hq se130)) ?_
          refine mf_icmp_ge (tgt := 184) dX7_trainsFitting_163 (by decide) ?_ ?_
          · refine mf_iinc 5 (x3 + 1) [(5, .int (x3 + 1)), (0, .ref 130), (1, .ref 4), (2, .ref 47), (3, .int ((1 <<< (v1 &&& 31)) - 1)), (4, .int x2)] dX7_trainsFitting_184 rfl rfl (Nat.le_of_ble_eq_true rfl) rfl ?_
            refine mf_goto (tgt := 18) dX7_trainsFitting_187 (by decide) ?_
            refine mf_sub [1, 2, 3, 4, 5, 0] rfl ?_
            exact h18 _ _
          · refine mf_aload_n 0 dX7_trainsFitting_166 rfl ?_
            refine mf_getr 7 6 dX7_trainsFitting_167 fl_X7_32 (by decide) (by decide) rfl (se_o (w_se hq se130)) (se_r6 (w_se hq se130)) (by decide) ?_
            refine mf_iload 4 dX7_trainsFitting_170 rfl ?_
            refine mf_aload_n 0 dX7_trainsFitting_172 rfl ?_
            refine mf_aload_n 1 dX7_trainsFitting_173 rfl ?_
            refine mf_aload_n 2 dX7_trainsFitting_174 rfl ?_
            refine mf_iload 5 dX7_trainsFitting_175 rfl ?_
            refine mf_cVi (rest := [.int x2, .ref (130 + 4)]) [.ref 4, .ref 47, .int x3] (aX7_trainsOfStep (d + 0) q hq x3) mY_X7_trainsOfStep dX7_trainsFitting_177 ml_X7_98 (se_o (w_se hq se130)) rfl rfl (Nat.le_of_ble_eq_true rfl) rfl (fun v9 => ?_)
            refine mf_iast dX7_trainsFitting_180 (se_a6 (w_se hq se130)) ?_
            refine mf_iinc 4 (x2 + 1) [(4, .int (x2 + 1)), (0, .ref 130), (1, .ref 4), (2, .ref 47), (3, .int ((1 <<< (v1 &&& 31)) - 1)), (5, .int x3)] dX7_trainsFitting_181 rfl rfl (Nat.le_of_ble_eq_true rfl) rfl ?_
            refine mf_iinc 5 (x3 + 1) [(5, .int (x3 + 1)), (4, .int (x2 + 1)), (0, .ref 130), (1, .ref 4), (2, .ref 47), (3, .int ((1 <<< (v1 &&& 31)) - 1))] dX7_trainsFitting_184 rfl rfl (Nat.le_of_ble_eq_true rfl) rfl ?_
            refine mf_goto (tgt := 18) dX7_trainsFitting_187 (by decide) ?_
            refine mf_sub [2, 3, 4, 5, 1, 0] rfl ?_
            exact h18 _ _
        refine mf_icmp_ne (tgt := 156) dX7_trainsFitting_122 (by decide) ?_ ?_
        · exact hJ156
        · refine mf_iload 4 dX7_trainsFitting_125 rfl ?_
          refine mf_iconst (v := 2) dX7_trainsFitting_127 rfl ?_
          refine mf_icmp_lt (tgt := 156) dX7_trainsFitting_128 (by decide) ?_ ?_
          · exact hJ156
          · refine mf_iinc 4 (x2 + (-1)) [(4, .int (x2 + (-1))), (0, .ref 130), (1, .ref 4), (2, .ref 47), (3, .int ((1 <<< (v1 &&& 31)) - 1)), (5, .int x3)] dX7_trainsFitting_131 rfl rfl (Nat.le_of_ble_eq_true rfl) rfl ?_
            refine mf_aload_n 1 dX7_trainsFitting_134 rfl ?_
            refine mf_getr 7 6 dX7_trainsFitting_135 fl_X7_32 (by decide) (by decide) rfl (se_o (w_se hq se130)) (se_r6 (w_se hq se130)) (by decide) ?_
            refine mf_iload 0 dX7_trainsFitting_138 rfl ?_
            refine mf_iconst (v := 1) dX7_trainsFitting_140 rfl ?_
            refine mf_isub dX7_trainsFitting_141 ?_
            refine mf_dup2 dX7_trainsFitting_142 rfl rfl ?_
            refine mf_iald dX7_trainsFitting_143 (se_a6 (w_se hq se130)) (fun v10 => ?_)
            refine mf_aload_n 1 dX7_trainsFitting_144 rfl ?_
            refine mf_getr 7 6 dX7_trainsFitting_145 fl_X7_32 (by decide) (by decide) rfl (se_o (w_se hq se130)) (se_r6 (w_se hq se130)) (by decide) ?_
            refine mf_iload 0 dX7_trainsFitting_148 rfl ?_
            refine mf_iald dX7_trainsFitting_150 (se_a6 (w_se hq se130)) (fun v11 => ?_)
            refine mf_ior dX7_trainsFitting_151 ?_
            refine mf_iast dX7_trainsFitting_152 (se_a6 (w_se hq se130)) ?_
            refine mf_goto (tgt := 184) dX7_trainsFitting_153 (by decide) ?_
            refine mf_iinc 5 (x3 + 1) [(5, .int (x3 + 1)), (4, .int (x2 + (-1))), (0, .ref 130), (1, .ref 4), (2, .ref 47), (3, .int ((1 <<< (v1 &&& 31)) - 1))] dX7_trainsFitting_184 rfl rfl (Nat.le_of_ble_eq_true rfl) rfl ?_
            refine mf_goto (tgt := 18) dX7_trainsFitting_187 (by decide) ?_
            refine mf_sub [2, 3, 4, 5, 1, 0] rfl ?_
            exact h18 _ _
      refine mf_icmp_ne (tgt := 113) dX7_trainsFitting_79 (by decide) ?_ ?_
      · exact hJ113
      · refine mf_iload 4 dX7_trainsFitting_82 rfl ?_
        refine mf_iconst (v := 2) dX7_trainsFitting_84 rfl ?_
        refine mf_icmp_lt (tgt := 113) dX7_trainsFitting_85 (by decide) ?_ ?_
        · exact hJ113
        · refine mf_iinc 4 (x2 + (-1)) [(4, .int (x2 + (-1))), (0, .ref 130), (1, .ref 4), (2, .ref 47), (3, .int ((1 <<< (v1 &&& 31)) - 1)), (5, .int x3)] dX7_trainsFitting_88 rfl rfl (Nat.le_of_ble_eq_true rfl) rfl ?_
          refine mf_aload_n 1 dX7_trainsFitting_91 rfl ?_
          refine mf_getr 7 6 dX7_trainsFitting_92 fl_X7_32 (by decide) (by decide) rfl (se_o (w_se hq se130)) (se_r6 (w_se hq se130)) (by decide) ?_
          refine mf_iload 0 dX7_trainsFitting_95 rfl ?_
          refine mf_iconst (v := 1) dX7_trainsFitting_97 rfl ?_
          refine mf_isub dX7_trainsFitting_98 ?_
          refine mf_dup2 dX7_trainsFitting_99 rfl rfl ?_
          refine mf_iald dX7_trainsFitting_100 (se_a6 (w_se hq se130)) (fun v12 => ?_)
          refine mf_aload_n 1 dX7_trainsFitting_101 rfl ?_
          refine mf_getr 7 6 dX7_trainsFitting_102 fl_X7_32 (by decide) (by decide) rfl (se_o (w_se hq se130)) (se_r6 (w_se hq se130)) (by decide) ?_
          refine mf_iload 0 dX7_trainsFitting_105 rfl ?_
          refine mf_iald dX7_trainsFitting_107 (se_a6 (w_se hq se130)) (fun v13 => ?_)
          refine mf_iand dX7_trainsFitting_108 ?_
          refine mf_iast dX7_trainsFitting_109 (se_a6 (w_se hq se130)) ?_
          refine mf_goto (tgt := 184) dX7_trainsFitting_110 (by decide) ?_
          refine mf_iinc 5 (x3 + 1) [(5, .int (x3 + 1)), (4, .int (x2 + (-1))), (0, .ref 130), (1, .ref 4), (2, .ref 47), (3, .int ((1 <<< (v1 &&& 31)) - 1))] dX7_trainsFitting_184 rfl rfl (Nat.le_of_ble_eq_true rfl) rfl ?_
          refine mf_goto (tgt := 18) dX7_trainsFitting_187 (by decide) ?_
          refine mf_sub [2, 3, 4, 5, 1, 0] rfl ?_
          exact h18 _ _
    refine mf_icmp_ne (tgt := 70) dX7_trainsFitting_36 (by decide) ?_ ?_
    · exact hJ70
    · refine mf_iload 4 dX7_trainsFitting_39 rfl ?_
      refine mf_iconst (v := 1) dX7_trainsFitting_41 rfl ?_
      refine mf_icmp_lt (tgt := 70) dX7_trainsFitting_42 (by decide) ?_ ?_
      · exact hJ70
      · refine mf_aload_n 0 dX7_trainsFitting_45 rfl ?_
        refine mf_getr 7 6 dX7_trainsFitting_46 fl_X7_32 (by decide) (by decide) rfl (se_o (w_se hq se130)) (se_r6 (w_se hq se130)) (by decide) ?_
        refine mf_iload 4 dX7_trainsFitting_49 rfl ?_
        refine mf_iconst (v := 1) dX7_trainsFitting_51 rfl ?_
        refine mf_isub dX7_trainsFitting_52 ?_
        refine mf_iload_n 3 dX7_trainsFitting_53 rfl ?_
        refine mf_aload_n 0 dX7_trainsFitting_54 rfl ?_
        refine mf_getr 7 6 dX7_trainsFitting_55 fl_X7_32 (by decide) (by decide) rfl (se_o (w_se hq se130)) (se_r6 (w_se hq se130)) (by decide) ?_
        refine mf_iload 4 dX7_trainsFitting_58 rfl ?_
        refine mf_iconst (v := 1) dX7_trainsFitting_60 rfl ?_
        refine mf_isub dX7_trainsFitting_61 ?_
        refine mf_iald dX7_trainsFitting_62 (se_a6 (w_se hq se130)) (fun v14 => ?_)
        refine mf_iconst (v := -1) dX7_trainsFitting_63 rfl ?_
        refine mf_ixor dX7_trainsFitting_64 ?_
        refine mf_iand dX7_trainsFitting_65 ?_
        refine mf_iast dX7_trainsFitting_66 (se_a6 (w_se hq se130)) ?_
        refine mf_goto (tgt := 184) dX7_trainsFitting_67 (by decide) ?_
        refine mf_iinc 5 (x3 + 1) [(5, .int (x3 + 1)), (0, .ref 130), (1, .ref 4), (2, .ref 47), (3, .int ((1 <<< (v1 &&& 31)) - 1)), (4, .int x2)] dX7_trainsFitting_184 rfl rfl (Nat.le_of_ble_eq_true rfl) rfl ?_
        refine mf_goto (tgt := 18) dX7_trainsFitting_187 (by decide) ?_
        refine mf_sub [1, 2, 3, 4, 5, 0] rfl ?_
        exact h18 _ _
set_option maxRecDepth 100000 in
set_option maxHeartbeats 4000000 in
theorem aX9_addByte (d : Nat) (q : m_S) (hq : isW q) (a1 : Int32) : AC rU yX9_addByte cX9_addByte 2 none (d + 1) [.ref 148, .int a1] q (fX9_addByte a1) := by
  refine ac_of (by decide +kernel) (Nat.le_of_ble_eq_true rfl) ?_
  unfold fX9_addByte
  show MF rU (yX9_addByte.cls, cX9_addByte, 2, none, yX9_addByte.name, d + 1, 0, 0) 0 [(0, .ref 148), (1, .int a1)] [] q _
  refine mf_aload_n 0 dX9_addByte_0 rfl ?_
  refine mf_geti 9 1 dX9_addByte_1 fl_X9_15 (by decide) (by decide) rfl (tg_o (w_tg hq)) (fun v1 => ?_)
  refine mf_aload_n 0 dX9_addByte_4 rfl ?_
  refine mf_getr 9 0 dX9_addByte_5 fl_X9_9 (by decide) (by decide) rfl (tg_o (w_tg hq)) (tg_r0 (w_tg hq)) (by decide) ?_
  refine mf_alen (t := 0) (by decide) dX9_addByte_8 (tg_a0 (w_tg hq)) ?_
  refine mf_icmp_ge (tgt := 32) dX9_addByte_9 (by decide) ?_ ?_
  · exact mf_return dX9_addByte_32 rfl ⟨rfl, rfl⟩
  · refine mf_aload_n 0 dX9_addByte_12 rfl ?_
    refine mf_getr 9 0 dX9_addByte_13 fl_X9_9 (by decide) (by decide) rfl (tg_o (w_tg hq)) (tg_r0 (w_tg hq)) (by decide) ?_
    refine mf_aload_n 0 dX9_addByte_16 rfl ?_
    refine mf_geti 9 1 dX9_addByte_17 fl_X9_15 (by decide) (by decide) rfl (tg_o (w_tg hq)) (fun v2 => ?_)
    refine mf_iload_n 1 dX9_addByte_20 rfl ?_
    refine mf_iast dX9_addByte_21 (tg_a0 (w_tg hq)) ?_
    refine mf_aload_n 0 dX9_addByte_22 rfl ?_
    refine mf_dup dX9_addByte_23 rfl ?_
    refine mf_geti 9 1 dX9_addByte_24 fl_X9_15 (by decide) (by decide) rfl (tg_o (w_tg hq)) (fun v3 => ?_)
    refine mf_iconst (v := 1) dX9_addByte_27 rfl ?_
    refine mf_iadd dX9_addByte_28 ?_
    refine mf_puti 9 1 dX9_addByte_29 fl_X9_15 (by decide) (by decide) rfl rfl (tg_o (w_tg hq)) ?_
    exact mf_return dX9_addByte_32 rfl ⟨rfl, rfl⟩
set_option maxRecDepth 100000 in
set_option maxHeartbeats 4000000 in
theorem aX9_addName (d : Nat) (q : m_S) (hq : isW q) (a1 : Int64) : AC rU yX9_addName cX9_addName 5 none (d + 2) [.ref 148, .long a1] q (fX9_addName a1) := by
  refine ac_of (by decide +kernel) (Nat.le_of_ble_eq_true rfl) ?_
  unfold fX9_addName
  show MF rU (yX9_addName.cls, cX9_addName, 5, none, yX9_addName.name, d + 2, 0, 0) 0 [(0, .ref 148), (1, .long a1)] [] q _
  refine mf_bipush (v := 30) dX9_addName_0 (by decide) ?_
  refine mf_istore_n [(3, .int 30), (0, .ref 148), (1, .long a1)] dX9_addName_2 (Nat.le_of_ble_eq_true rfl) rfl ?_
  refine mf_sub [1, 2, 0] rfl ?_
  refine mf_lz1 (lv := fun x1 => [(0, .ref 148), (1, .long a1), (3, .int x1)]) (fun L3 h3 x1 => ?_) _ _
  show MF rU (yX9_addName.cls, cX9_addName, 5, none, yX9_addName.name, d + 2, 0, 0) 3 [(0, .ref 148), (1, .long a1), (3, .int x1)] [] q _
  refine mf_iload_n 2 dX9_addName_3 rfl ?_
  refine mf_if_lt (tgt := 39) dX9_addName_4 (by decide) ?_ ?_
  · exact mf_return dX9_addName_39 rfl ⟨rfl, rfl⟩
  · refine mf_lload_n 1 dX9_addName_7 rfl ?_
    refine mf_iload_n 2 dX9_addName_8 rfl ?_
    refine mf_lshr dX9_addName_9 ?_
    refine mf_ldc2 dX9_addName_10 cl_X9_66 ?_
    refine mf_land dX9_addName_13 ?_
    refine mf_l2i dX9_addName_14 ?_
    refine mf_istore [(4, .int (((a1 >>> ((x1 : Int32).toInt64 &&& 63)) &&& 31).toInt32)), (0, .ref 148), (1, .long a1), (3, .int x1)] dX9_addName_15 (Nat.le_of_ble_eq_true rfl) rfl ?_
    refine mf_iload 0 dX9_addName_17 rfl ?_
    refine mf_if_eq (tgt := 33) dX9_addName_19 (by decide) ?_ ?_
    · refine mf_iinc 3 (x1 + (-5)) [(3, .int (x1 + (-5))), (4, .int (((a1 >>> ((x1 : Int32).toInt64 &&& 63)) &&& 31).toInt32)), (0, .ref 148), (1, .long a1)] dX9_addName_33 rfl rfl (Nat.le_of_ble_eq_true rfl) rfl ?_
      refine mf_goto (tgt := 3) dX9_addName_36 (by decide) ?_
      refine mf_sub [2, 3, 0] rfl ?_
      exact h3 _
    · refine mf_aload_n 1 dX9_addName_22 rfl ?_
      refine mf_bipush (v := 97) dX9_addName_23 (by decide) ?_
      refine mf_iload 0 dX9_addName_25 rfl ?_
      refine mf_iadd dX9_addName_27 ?_
      refine mf_iconst (v := 1) dX9_addName_28 rfl ?_
      refine mf_isub dX9_addName_29 ?_
      refine mf_cVv (rest := []) [.int ((97 + (((a1 >>> ((x1 : Int32).toInt64 &&& 63)) &&& 31).toInt32)) - 1)] (aX9_addByte (d + 0) q hq ((97 + (((a1 >>> ((x1 : Int32).toInt64 &&& 63)) &&& 31).toInt32)) - 1)) mY_X9_addByte dX9_addName_30 ml_X9_62 (tg_o (w_tg hq)) rfl rfl (Nat.le_of_ble_eq_true rfl) rfl (fun _ => ?_)
      refine mf_iinc 3 (x1 + (-5)) [(3, .int (x1 + (-5))), (4, .int (((a1 >>> ((x1 : Int32).toInt64 &&& 63)) &&& 31).toInt32)), (0, .ref 148), (1, .long a1)] dX9_addName_33 rfl rfl (Nat.le_of_ble_eq_true rfl) rfl ?_
      refine mf_goto (tgt := 3) dX9_addName_36 (by decide) ?_
      refine mf_sub [2, 3, 0] rfl ?_
      exact h3 _
set_option maxRecDepth 100000 in
set_option maxHeartbeats 4000000 in
theorem aX9_at (d : Nat) (q : m_S) (hq : isW q) (a1 : Int32) : AC rI yX9_at cX9_at 2 (some .int) (d + 1) [.ref 148, .int a1] q (fX9_at a1) := by
  refine ac_of (by decide +kernel) (Nat.le_of_ble_eq_true rfl) ?_
  unfold fX9_at
  show MF rI (yX9_at.cls, cX9_at, 2, (some .int), yX9_at.name, d + 1, 0, 0) 0 [(0, .ref 148), (1, .int a1)] [] q _
  refine mf_iload_n 1 dX9_at_0 rfl ?_
  refine mf_if_lt (tgt := 21) dX9_at_1 (by decide) ?_ ?_
  · refine mf_iconst (v := -1) dX9_at_21 rfl ?_
    exact mf_ireturn dX9_at_22 rfl rfl ⟨rfl, rfl⟩
  · refine mf_iload_n 1 dX9_at_4 rfl ?_
    refine mf_aload_n 0 dX9_at_5 rfl ?_
    refine mf_geti 9 1 dX9_at_6 fl_X9_15 (by decide) (by decide) rfl (tg_o (w_tg hq)) (fun v1 => ?_)
    refine mf_icmp_ge (tgt := 21) dX9_at_9 (by decide) ?_ ?_
    · refine mf_iconst (v := -1) dX9_at_21 rfl ?_
      exact mf_ireturn dX9_at_22 rfl rfl ⟨rfl, rfl⟩
    · refine mf_aload_n 0 dX9_at_12 rfl ?_
      refine mf_getr 9 0 dX9_at_13 fl_X9_9 (by decide) (by decide) rfl (tg_o (w_tg hq)) (tg_r0 (w_tg hq)) (by decide) ?_
      refine mf_iload_n 1 dX9_at_16 rfl ?_
      refine mf_iald dX9_at_17 (tg_a0 (w_tg hq)) (fun v2 => ?_)
      refine mf_goto (tgt := 22) dX9_at_18 (by decide) ?_
      exact mf_ireturn dX9_at_22 rfl rfl ⟨rfl, rfl⟩
set_option maxRecDepth 100000 in
set_option maxHeartbeats 4000000 in
theorem aX11_feed (d : Nat) (q : m_S) (hq : isW q) (a1 : Int32) (a2 : Int32) (a3 : Int32) (a4 : Int32) (a5 : Int32) : AC rI yX11_feed cX11_feed 6 (some .int) (d + 2) [.ref 0, .int a1, .int a2, .int a3, .int a4, .int a5] q (fX11_feed a1 a2 a3 a4 a5) := by
  refine ac_of (by decide +kernel) (Nat.le_of_ble_eq_true rfl) ?_
  unfold fX11_feed
  show MF rI (yX11_feed.cls, cX11_feed, 6, (some .int), yX11_feed.name, d + 2, 0, 0) 0 [(0, .ref 0), (1, .int a1), (2, .int a2), (3, .int a3), (4, .int a4), (5, .int a5)] [] q _
  refine mf_aload_n 0 dX11_feed_0 rfl ?_
  refine mf_getr 11 0 dX11_feed_1 fl_X11_10 (by decide) (by decide) rfl (lf_o (w_lf hq)) (lf_r0 (w_lf hq)) (by decide) ?_
  refine mf_geti 10 1 dX11_feed_4 fl_X11_101 (by decide) (by decide) rfl (tx_o (w_tx hq)) (fun v1 => ?_)
  refine mf_bipush (v := 20) dX11_feed_7 (by decide) ?_
  refine mf_iadd dX11_feed_9 ?_
  refine mf_sipush (v := 1460) dX11_feed_10 (by decide) ?_
  refine mf_icmp_le (tgt := 18) dX11_feed_13 (by decide) ?_ ?_
  · refine mf_aload_n 0 dX11_feed_18 rfl ?_
    refine mf_getr 11 0 dX11_feed_19 fl_X11_10 (by decide) (by decide) rfl (lf_o (w_lf hq)) (lf_r0 (w_lf hq)) (by decide) ?_
    refine mf_iload_n 1 dX11_feed_22 rfl ?_
    refine mf_cVv (rest := []) [.int a1] (aX10_addNumber (d + 0) q hq a1) mY_X10_addNumber dX11_feed_23 ml_X11_104 (tx_o (w_tx hq)) rfl rfl (Nat.le_of_ble_eq_true rfl) rfl (fun _ => ?_)
    refine mf_aload_n 0 dX11_feed_26 rfl ?_
    refine mf_getr 11 0 dX11_feed_27 fl_X11_10 (by decide) (by decide) rfl (lf_o (w_lf hq)) (lf_r0 (w_lf hq)) (by decide) ?_
    refine mf_iload_n 2 dX11_feed_30 rfl ?_
    refine mf_cVv (rest := []) [.int a2] (aX10_addNumber (d + 0) q hq a2) mY_X10_addNumber dX11_feed_31 ml_X11_104 (tx_o (w_tx hq)) rfl rfl (Nat.le_of_ble_eq_true rfl) rfl (fun _ => ?_)
    refine mf_aload_n 0 dX11_feed_34 rfl ?_
    refine mf_getr 11 0 dX11_feed_35 fl_X11_10 (by decide) (by decide) rfl (lf_o (w_lf hq)) (lf_r0 (w_lf hq)) (by decide) ?_
    refine mf_iload_n 3 dX11_feed_38 rfl ?_
    refine mf_cVv (rest := []) [.int a3] (aX10_addNumber (d + 0) q hq a3) mY_X10_addNumber dX11_feed_39 ml_X11_104 (tx_o (w_tx hq)) rfl rfl (Nat.le_of_ble_eq_true rfl) rfl (fun _ => ?_)
    refine mf_aload_n 0 dX11_feed_42 rfl ?_
    refine mf_getr 11 0 dX11_feed_43 fl_X11_10 (by decide) (by decide) rfl (lf_o (w_lf hq)) (lf_r0 (w_lf hq)) (by decide) ?_
    refine mf_iload 4 dX11_feed_46 rfl ?_
    refine mf_cVv (rest := []) [.int a4] (aX10_addNumber (d + 0) q hq a4) mY_X10_addNumber dX11_feed_48 ml_X11_104 (tx_o (w_tx hq)) rfl rfl (Nat.le_of_ble_eq_true rfl) rfl (fun _ => ?_)
    refine mf_aload_n 0 dX11_feed_51 rfl ?_
    refine mf_getr 11 0 dX11_feed_52 fl_X11_10 (by decide) (by decide) rfl (lf_o (w_lf hq)) (lf_r0 (w_lf hq)) (by decide) ?_
    refine mf_iload 5 dX11_feed_55 rfl ?_
    refine mf_cVv (rest := []) [.int a5] (aX10_addNumber (d + 0) q hq a5) mY_X10_addNumber dX11_feed_57 ml_X11_104 (tx_o (w_tx hq)) rfl rfl (Nat.le_of_ble_eq_true rfl) rfl (fun _ => ?_)
    refine mf_aload_n 0 dX11_feed_60 rfl ?_
    refine mf_getr 11 0 dX11_feed_61 fl_X11_10 (by decide) (by decide) rfl (lf_o (w_lf hq)) (lf_r0 (w_lf hq)) (by decide) ?_
    refine mf_geti 10 1 dX11_feed_64 fl_X11_101 (by decide) (by decide) rfl (tx_o (w_tx hq)) (fun v2 => ?_)
    exact mf_ireturn dX11_feed_67 rfl rfl ⟨rfl, rfl⟩
  · refine mf_iconst (v := -1) dX11_feed_16 rfl ?_
    exact mf_ireturn dX11_feed_17 rfl rfl ⟨rfl, rfl⟩
set_option maxRecDepth 100000 in
set_option maxHeartbeats 4000000 in
theorem aX11_end (d : Nat) (q : m_S) (hq : isW q) (a1 : Int32) : AC rI yX11_end cX11_end 2 (some .boolean) (d + 1) [.ref 0, .int a1] q (fX11_end a1) := by
  refine ac_of (by decide +kernel) (Nat.le_of_ble_eq_true rfl) ?_
  unfold fX11_end
  show MF rI (yX11_end.cls, cX11_end, 2, (some .boolean), yX11_end.name, d + 1, 0, 0) 0 [(0, .ref 0), (1, .int a1)] [] q _
  refine mf_iload_n 1 dX11_end_0 rfl ?_
  refine mf_if_lt (tgt := 15) dX11_end_1 (by decide) ?_ ?_
  · refine mf_iconst (v := 0) dX11_end_15 rfl ?_
    exact mf_ireturn dX11_end_16 rfl rfl ⟨rfl, rfl⟩
  · refine mf_iload_n 1 dX11_end_4 rfl ?_
    refine mf_aload_n 0 dX11_end_5 rfl ?_
    refine mf_getr 11 0 dX11_end_6 fl_X11_10 (by decide) (by decide) rfl (lf_o (w_lf hq)) (lf_r0 (w_lf hq)) (by decide) ?_
    refine mf_geti 10 1 dX11_end_9 fl_X11_101 (by decide) (by decide) rfl (tx_o (w_tx hq)) (fun v1 => ?_)
    refine mf_icmp_le (tgt := 17) dX11_end_12 (by decide) ?_ ?_
    · refine mf_aload_n 0 dX11_end_17 rfl ?_
      refine mf_getr 11 0 dX11_end_18 fl_X11_10 (by decide) (by decide) rfl (lf_o (w_lf hq)) (lf_r0 (w_lf hq)) (by decide) ?_
      refine mf_iload_n 1 dX11_end_21 rfl ?_
      refine mf_puti 10 1 dX11_end_22 fl_X11_101 (by decide) (by decide) rfl rfl (tx_o (w_tx hq)) ?_
      refine mf_iconst (v := 1) dX11_end_25 rfl ?_
      exact mf_ireturn dX11_end_26 rfl rfl ⟨rfl, rfl⟩
    · refine mf_iconst (v := 0) dX11_end_15 rfl ?_
      exact mf_ireturn dX11_end_16 rfl rfl ⟨rfl, rfl⟩
set_option maxRecDepth 100000 in
set_option maxHeartbeats 4000000 in
theorem aX11_layout (d : Nat) (q : m_S) (hq : isW q)  : AC rI yX11_layout cX11_layout 2 (some .int) (d + 8) [.ref 0] q (fX11_layout ) := by
  refine ac_of (by decide +kernel) (Nat.le_of_ble_eq_true rfl) ?_
  unfold fX11_layout
  show MF rI (yX11_layout.cls, cX11_layout, 2, (some .int), yX11_layout.name, d + 8, 0, 0) 0 [(0, .ref 0)] [] q _
  refine mf_aload_n 0 dX11_layout_0 rfl ?_
  refine mf_getr 11 2 dX11_layout_1 fl_X11_26 (by decide) (by decide) rfl (lf_o (w_lf hq)) (lf_r2 (w_lf hq)) (by decide) ?_
  refine mf_aload_n 0 dX11_layout_4 rfl ?_
  refine mf_getr 11 0 dX11_layout_5 fl_X11_10 (by decide) (by decide) rfl (lf_o (w_lf hq)) (lf_r0 (w_lf hq)) (by decide) ?_
  refine mf_cVi (rest := []) [.ref 1] (aX6_readPlan (d + 0) q hq) mY_X6_readPlan dX11_layout_8 ml_X11_108 (rd_o (w_rd hq)) rfl rfl (Nat.le_of_ble_eq_true rfl) rfl (fun v1 => ?_)
  refine mf_istore_n [(1, .int v1), (0, .ref 0)] dX11_layout_11 (Nat.le_of_ble_eq_true rfl) rfl ?_
  refine mf_aload_n 1 dX11_layout_12 rfl ?_
  refine mf_aload_n 1 dX11_layout_13 rfl ?_
  refine mf_getr 11 0 dX11_layout_14 fl_X11_10 (by decide) (by decide) rfl (lf_o (w_lf hq)) (lf_r0 (w_lf hq)) (by decide) ?_
  refine mf_geti 10 9 dX11_layout_17 fl_X11_112 (by decide) (by decide) rfl (tx_o (w_tx hq)) (fun v2 => ?_)
  refine mf_puti 11 13 dX11_layout_20 fl_X11_93 (by decide) (by decide) rfl rfl (lf_o (w_lf hq)) ?_
  refine mf_aload_n 1 dX11_layout_23 rfl ?_
  refine mf_getr 11 0 dX11_layout_24 fl_X11_10 (by decide) (by decide) rfl (lf_o (w_lf hq)) (lf_r0 (w_lf hq)) (by decide) ?_
  refine mf_iconst (v := 0) dX11_layout_27 rfl ?_
  refine mf_puti 10 1 dX11_layout_28 fl_X11_101 (by decide) (by decide) rfl rfl (tx_o (w_tx hq)) ?_
  refine mf_iload_n 0 dX11_layout_31 rfl ?_
  refine mf_if_ne (tgt := 45) dX11_layout_32 (by decide) ?_ ?_
  · refine mf_aload_n 1 dX11_layout_45 rfl ?_
    refine mf_getr 11 1 dX11_layout_46 fl_X11_19 (by decide) (by decide) rfl (lf_o (w_lf hq)) (lf_r1 (w_lf hq)) (by decide) ?_
    refine mf_aload_n 1 dX11_layout_49 rfl ?_
    refine mf_getr 11 2 dX11_layout_50 fl_X11_26 (by decide) (by decide) rfl (lf_o (w_lf hq)) (lf_r2 (w_lf hq)) (by decide) ?_
    refine mf_getr 6 0 dX11_layout_53 fl_X11_118 (by decide) (by decide) rfl (rd_o (w_rd hq)) (rd_r0 (w_rd hq)) (by decide) ?_
    refine mf_cVv (rest := []) [.ref 26] (aX5_copyFrom (d + 5) q hq 4 26 pl4 pl26) mY_X5_copyFrom dX11_layout_56 ml_X11_120 (pl_o (w_pl hq pl4)) rfl rfl (Nat.le_of_ble_eq_true rfl) rfl (fun _ => ?_)
    refine mf_aload_n 1 dX11_layout_59 rfl ?_
    refine mf_getr 11 3 dX11_layout_60 fl_X11_35 (by decide) (by decide) rfl (lf_o (w_lf hq)) (lf_r3 (w_lf hq)) (by decide) ?_
    refine mf_cVv (rest := []) [] (aX8_start (d + 4) q hq 47 st47) mY_X8_start dX11_layout_63 ml_X11_123 (sa_o (w_st hq st47)) rfl rfl (Nat.le_of_ble_eq_true rfl) rfl (fun _ => ?_)
    refine mf_aload_n 1 dX11_layout_66 rfl ?_
    refine mf_getr 11 7 dX11_layout_67 fl_X11_59 (by decide) (by decide) rfl (lf_o (w_lf hq)) (lf_r7 (w_lf hq)) (by decide) ?_
    refine mf_iconst (v := 0) dX11_layout_70 rfl ?_
    refine mf_putzc 7 0 dX11_layout_71 fl_X11_126 (by decide) (by decide) rfl rfl (se_o (w_se hq se130)) (by decide) ?_
    refine mf_aload_n 1 dX11_layout_74 rfl ?_
    refine mf_getr 11 5 dX11_layout_75 fl_X11_45 (by decide) (by decide) rfl (lf_o (w_lf hq)) (lf_r5 (w_lf hq)) (by decide) ?_
    refine mf_iconst (v := 0) dX11_layout_78 rfl ?_
    refine mf_puti 3 1 dX11_layout_79 fl_X11_130 (by decide) (by decide) rfl rfl (hi_o (w_hi hq)) ?_
    refine mf_aload_n 1 dX11_layout_82 rfl ?_
    refine mf_getr 11 2 dX11_layout_83 fl_X11_26 (by decide) (by decide) rfl (lf_o (w_lf hq)) (lf_r2 (w_lf hq)) (by decide) ?_
    refine mf_geti 6 1 dX11_layout_86 fl_X11_131 (by decide) (by decide) rfl (rd_o (w_rd hq)) (fun v3 => ?_)
    exact mf_ireturn dX11_layout_89 rfl rfl ⟨rfl, rfl⟩
  · refine mf_iconst (v := -1) dX11_layout_35 rfl ?_
    refine mf_aload_n 1 dX11_layout_36 rfl ?_
    refine mf_getr 11 0 dX11_layout_37 fl_X11_10 (by decide) (by decide) rfl (lf_o (w_lf hq)) (lf_r0 (w_lf hq)) (by decide) ?_
    refine mf_geti 10 10 dX11_layout_40 fl_X11_115 (by decide) (by decide) rfl (tx_o (w_tx hq)) (fun v4 => ?_)
    refine mf_isub dX11_layout_43 ?_
    exact mf_ireturn dX11_layout_44 rfl rfl ⟨rfl, rfl⟩
set_option maxRecDepth 100000 in
set_option maxHeartbeats 4000000 in
theorem aX11_fault (d : Nat) (q : m_S) (hq : isW q)  : AC rI yX11_fault cX11_fault 1 (some .int) (d + 1) [.ref 0] q (fX11_fault ) := by
  refine ac_of (by decide +kernel) (Nat.le_of_ble_eq_true rfl) ?_
  unfold fX11_fault
  show MF rI (yX11_fault.cls, cX11_fault, 1, (some .int), yX11_fault.name, d + 1, 0, 0) 0 [(0, .ref 0)] [] q _
  refine mf_aload_n 0 dX11_fault_0 rfl ?_
  refine mf_geti 11 13 dX11_fault_1 fl_X11_93 (by decide) (by decide) rfl (lf_o (w_lf hq)) (fun v1 => ?_)
  exact mf_ireturn dX11_fault_4 rfl rfl ⟨rfl, rfl⟩
set_option maxRecDepth 100000 in
set_option maxHeartbeats 4000000 in
theorem aX11_section (d : Nat) (q : m_S) (hq : isW q) (a1 : Int32) (a2 : Int32) : AC rI yX11_section cX11_section 3 (some .int) (d + 3) [.ref 0, .int a1, .int a2] q (fX11_section a1 a2) := by
  refine ac_of (by decide +kernel) (Nat.le_of_ble_eq_true rfl) ?_
  unfold fX11_section
  show MF rI (yX11_section.cls, cX11_section, 3, (some .int), yX11_section.name, d + 3, 0, 0) 0 [(0, .ref 0), (1, .int a1), (2, .int a2)] [] q _
  refine mf_aload_n 0 dX11_section_0 rfl ?_
  refine mf_getr 11 1 dX11_section_1 fl_X11_19 (by decide) (by decide) rfl (lf_o (w_lf hq)) (lf_r1 (w_lf hq)) (by decide) ?_
  refine mf_iconst (v := 0) dX11_section_4 rfl ?_
  refine mf_iload_n 1 dX11_section_5 rfl ?_
  refine mf_cVi (rest := []) [.int 0, .int a1] (aX5_has (d + 1) q hq 4 0 a1 pl4) mY_X5_has dX11_section_6 ml_X11_134 (pl_o (w_pl hq pl4)) rfl rfl (Nat.le_of_ble_eq_true rfl) rfl (fun v1 => ?_)
  refine mf_if_ne (tgt := 14) dX11_section_9 (by decide) ?_ ?_
  · refine mf_iload_n 2 dX11_section_14 rfl ?_
    refine mf_case (v := 0) (tgt := 52) (off := 37) dX11_section_15 (by decide) (by decide) (by decide) (by decide) ?_ (fun t15_0 => ?_)
    · refine mf_aload_n 0 dX11_section_52 rfl ?_
      refine mf_getr 11 1 dX11_section_53 fl_X11_19 (by decide) (by decide) rfl (lf_o (w_lf hq)) (lf_r1 (w_lf hq)) (by decide) ?_
      refine mf_getr 5 2 dX11_section_56 fl_X11_138 (by decide) (by decide) rfl (pl_o (w_pl hq pl4)) (pl_r2 (w_pl hq pl4)) (by decide) ?_
      refine mf_iload_n 1 dX11_section_59 rfl ?_
      refine mf_iald dX11_section_60 (pl_a2 (w_pl hq pl4)) (fun v2 => ?_)
      exact mf_ireturn dX11_section_61 rfl rfl ⟨rfl, rfl⟩
    refine mf_case (v := 1) (tgt := 62) (off := 47) dX11_section_15 (by decide) (by decide) (by decide) (by decide) ?_ (fun t15_1 => ?_)
    · refine mf_aload_n 0 dX11_section_62 rfl ?_
      refine mf_getr 11 3 dX11_section_63 fl_X11_35 (by decide) (by decide) rfl (lf_o (w_lf hq)) (lf_r3 (w_lf hq)) (by decide) ?_
      refine mf_iload_n 1 dX11_section_66 rfl ?_
      refine mf_iconst (v := -1) dX11_section_67 rfl ?_
      refine mf_cVi (rest := []) [.int a1, .int (-1)] (aX8_leastTrainIn (d + 1) q hq 47 a1 (-1) st47) mY_X8_leastTrainIn dX11_section_68 ml_X11_142 (sa_o (w_st hq st47)) rfl rfl (Nat.le_of_ble_eq_true rfl) rfl (fun v3 => ?_)
      exact mf_ireturn dX11_section_71 rfl rfl ⟨rfl, rfl⟩
    refine mf_case (v := 2) (tgt := 72) (off := 57) dX11_section_15 (by decide) (by decide) (by decide) (by decide) ?_ (fun t15_2 => ?_)
    · refine mf_aload_n 0 dX11_section_72 rfl ?_
      refine mf_getr 11 3 dX11_section_73 fl_X11_35 (by decide) (by decide) rfl (lf_o (w_lf hq)) (lf_r3 (w_lf hq)) (by decide) ?_
      refine mf_cVi (rest := []) [] (aX8_showing (d + 0) q hq 47 st47) mY_X8_showing dX11_section_76 ml_X11_146 (sa_o (w_st hq st47)) rfl rfl (Nat.le_of_ble_eq_true rfl) rfl (fun v4 => ?_)
      refine mf_iload_n 1 dX11_section_79 rfl ?_
      refine mf_ishr dX11_section_80 ?_
      refine mf_iconst (v := 1) dX11_section_81 rfl ?_
      refine mf_iand dX11_section_82 ?_
      exact mf_ireturn dX11_section_83 rfl rfl ⟨rfl, rfl⟩
    refine mf_case (v := 3) (tgt := 84) (off := 69) dX11_section_15 (by decide) (by decide) (by decide) (by decide) ?_ (fun t15_3 => ?_)
    · refine mf_aload_n 0 dX11_section_84 rfl ?_
      refine mf_getr 11 3 dX11_section_85 fl_X11_35 (by decide) (by decide) rfl (lf_o (w_lf hq)) (lf_r3 (w_lf hq)) (by decide) ?_
      refine mf_iload_n 1 dX11_section_88 rfl ?_
      refine mf_cVi (rest := []) [.int a1] (aX8_failing (d + 1) q hq 47 a1 st47) mY_X8_failing dX11_section_89 ml_X11_150 (sa_o (w_st hq st47)) rfl rfl (Nat.le_of_ble_eq_true rfl) rfl (fun v5 => ?_)
      exact mf_ireturn dX11_section_92 rfl rfl ⟨rfl, rfl⟩
    refine mf_case (v := 4) (tgt := 93) (off := 78) dX11_section_15 (by decide) (by decide) (by decide) (by decide) ?_ (fun t15_4 => ?_)
    · refine mf_aload_n 0 dX11_section_93 rfl ?_
      refine mf_getr 11 1 dX11_section_94 fl_X11_19 (by decide) (by decide) rfl (lf_o (w_lf hq)) (lf_r1 (w_lf hq)) (by decide) ?_
      refine mf_iload_n 1 dX11_section_97 rfl ?_
      refine mf_cVi (rest := []) [.int a1] (aX5_routesWith (d + 1) q hq 4 a1 pl4) mY_X5_routesWith dX11_section_98 ml_X11_154 (pl_o (w_pl hq pl4)) rfl rfl (Nat.le_of_ble_eq_true rfl) rfl (fun v6 => ?_)
      exact mf_ireturn dX11_section_101 rfl rfl ⟨rfl, rfl⟩
    refine mf_case (v := 5) (tgt := 102) (off := 87) dX11_section_15 (by decide) (by decide) (by decide) (by decide) ?_ (fun t15_5 => ?_)
    · refine mf_aload_n 0 dX11_section_102 rfl ?_
      refine mf_getr 11 1 dX11_section_103 fl_X11_19 (by decide) (by decide) rfl (lf_o (w_lf hq)) (lf_r1 (w_lf hq)) (by decide) ?_
      refine mf_iload_n 1 dX11_section_106 rfl ?_
      refine mf_cVi (rest := []) [.int a1] (aX5_pointsWithin (d + 1) q hq 4 a1 pl4) mY_X5_pointsWithin dX11_section_107 ml_X11_157 (pl_o (w_pl hq pl4)) rfl rfl (Nat.le_of_ble_eq_true rfl) rfl (fun v7 => ?_)
      exact mf_ireturn dX11_section_110 rfl rfl ⟨rfl, rfl⟩
    refine mf_dflt (tgt := 111) dX11_section_15 (by have := lv_neT t15_0 (a := 0) (by decide); have := lv_neT t15_1 (a := 1) (by decide); have := lv_neT t15_2 (a := 2) (by decide); have := lv_neT t15_3 (a := 3) (by decide); have := lv_neT t15_4 (a := 4) (by decide); have := lv_neT t15_5 (a := 5) (by decide); omega) (by decide) ?_
    refine mf_iconst (v := -1) dX11_section_111 rfl ?_
    exact mf_ireturn dX11_section_112 rfl rfl ⟨rfl, rfl⟩
  · refine mf_iconst (v := -1) dX11_section_12 rfl ?_
    exact mf_ireturn dX11_section_13 rfl rfl ⟨rfl, rfl⟩
set_option maxRecDepth 100000 in
set_option maxHeartbeats 4000000 in
theorem aX11_points (d : Nat) (q : m_S) (hq : isW q) (a1 : Int32) (a2 : Int32) : AC rI yX11_points cX11_points 3 (some .int) (d + 2) [.ref 0, .int a1, .int a2] q (fX11_points a1 a2) := by
  refine ac_of (by decide +kernel) (Nat.le_of_ble_eq_true rfl) ?_
  unfold fX11_points
  show MF rI (yX11_points.cls, cX11_points, 3, (some .int), yX11_points.name, d + 2, 0, 0) 0 [(0, .ref 0), (1, .int a1), (2, .int a2)] [] q _
  refine mf_aload_n 0 dX11_points_0 rfl ?_
  refine mf_getr 11 1 dX11_points_1 fl_X11_19 (by decide) (by decide) rfl (lf_o (w_lf hq)) (lf_r1 (w_lf hq)) (by decide) ?_
  refine mf_iconst (v := 1) dX11_points_4 rfl ?_
  refine mf_iload_n 1 dX11_points_5 rfl ?_
  refine mf_cVi (rest := []) [.int 1, .int a1] (aX5_has (d + 0) q hq 4 1 a1 pl4) mY_X5_has dX11_points_6 ml_X11_134 (pl_o (w_pl hq pl4)) rfl rfl (Nat.le_of_ble_eq_true rfl) rfl (fun v1 => ?_)
  refine mf_if_ne (tgt := 14) dX11_points_9 (by decide) ?_ ?_
  · refine mf_iload_n 2 dX11_points_14 rfl ?_
    refine mf_case (v := 0) (tgt := 44) (off := 29) dX11_points_15 (by decide) (by decide) (by decide) (by decide) ?_ (fun t15_0 => ?_)
    · refine mf_aload_n 0 dX11_points_44 rfl ?_
      refine mf_getr 11 1 dX11_points_45 fl_X11_19 (by decide) (by decide) rfl (lf_o (w_lf hq)) (lf_r1 (w_lf hq)) (by decide) ?_
      refine mf_getr 5 3 dX11_points_48 fl_X11_160 (by decide) (by decide) rfl (pl_o (w_pl hq pl4)) (pl_r3 (w_pl hq pl4)) (by decide) ?_
      refine mf_iload_n 1 dX11_points_51 rfl ?_
      refine mf_iald dX11_points_52 (pl_a3 (w_pl hq pl4)) (fun v2 => ?_)
      exact mf_ireturn dX11_points_53 rfl rfl ⟨rfl, rfl⟩
    refine mf_case (v := 1) (tgt := 54) (off := 39) dX11_points_15 (by decide) (by decide) (by decide) (by decide) ?_ (fun t15_1 => ?_)
    · refine mf_aload_n 0 dX11_points_54 rfl ?_
      refine mf_getr 11 3 dX11_points_55 fl_X11_35 (by decide) (by decide) rfl (lf_o (w_lf hq)) (lf_r3 (w_lf hq)) (by decide) ?_
      refine mf_geti 8 3 dX11_points_58 fl_X11_163 (by decide) (by decide) rfl (sa_o (w_st hq st47)) (fun v3 => ?_)
      refine mf_iload_n 1 dX11_points_61 rfl ?_
      refine mf_ishr dX11_points_62 ?_
      refine mf_iconst (v := 1) dX11_points_63 rfl ?_
      refine mf_iand dX11_points_64 ?_
      exact mf_ireturn dX11_points_65 rfl rfl ⟨rfl, rfl⟩
    refine mf_case (v := 2) (tgt := 66) (off := 51) dX11_points_15 (by decide) (by decide) (by decide) (by decide) ?_ (fun t15_2 => ?_)
    · refine mf_aload_n 0 dX11_points_66 rfl ?_
      refine mf_getr 11 1 dX11_points_67 fl_X11_19 (by decide) (by decide) rfl (lf_o (w_lf hq)) (lf_r1 (w_lf hq)) (by decide) ?_
      refine mf_iload_n 1 dX11_points_70 rfl ?_
      refine mf_iconst (v := 0) dX11_points_71 rfl ?_
      refine mf_cVi (rest := []) [.int a1, .int 0] (aX5_routesNeeding (d + 0) q hq 4 a1 0 pl4) mY_X5_routesNeeding dX11_points_72 ml_X11_166 (pl_o (w_pl hq pl4)) rfl rfl (Nat.le_of_ble_eq_true rfl) rfl (fun v4 => ?_)
      exact mf_ireturn dX11_points_75 rfl rfl ⟨rfl, rfl⟩
    refine mf_case (v := 3) (tgt := 76) (off := 61) dX11_points_15 (by decide) (by decide) (by decide) (by decide) ?_ (fun t15_3 => ?_)
    · refine mf_aload_n 0 dX11_points_76 rfl ?_
      refine mf_getr 11 1 dX11_points_77 fl_X11_19 (by decide) (by decide) rfl (lf_o (w_lf hq)) (lf_r1 (w_lf hq)) (by decide) ?_
      refine mf_iload_n 1 dX11_points_80 rfl ?_
      refine mf_iconst (v := 1) dX11_points_81 rfl ?_
      refine mf_cVi (rest := []) [.int a1, .int 1] (aX5_routesNeeding (d + 0) q hq 4 a1 1 pl4) mY_X5_routesNeeding dX11_points_82 ml_X11_166 (pl_o (w_pl hq pl4)) rfl rfl (Nat.le_of_ble_eq_true rfl) rfl (fun v5 => ?_)
      exact mf_ireturn dX11_points_85 rfl rfl ⟨rfl, rfl⟩
    refine mf_dflt (tgt := 86) dX11_points_15 (by have := lv_neT t15_0 (a := 0) (by decide); have := lv_neT t15_1 (a := 1) (by decide); have := lv_neT t15_2 (a := 2) (by decide); have := lv_neT t15_3 (a := 3) (by decide); omega) (by decide) ?_
    refine mf_iconst (v := -1) dX11_points_86 rfl ?_
    exact mf_ireturn dX11_points_87 rfl rfl ⟨rfl, rfl⟩
  · refine mf_iconst (v := -1) dX11_points_12 rfl ?_
    exact mf_ireturn dX11_points_13 rfl rfl ⟨rfl, rfl⟩
set_option maxRecDepth 100000 in
set_option maxHeartbeats 4000000 in
theorem aX11_signal (d : Nat) (q : m_S) (hq : isW q) (a1 : Int32) (a2 : Int32) : AC rI yX11_signal cX11_signal 3 (some .int) (d + 2) [.ref 0, .int a1, .int a2] q (fX11_signal a1 a2) := by
  refine ac_of (by decide +kernel) (Nat.le_of_ble_eq_true rfl) ?_
  unfold fX11_signal
  show MF rI (yX11_signal.cls, cX11_signal, 3, (some .int), yX11_signal.name, d + 2, 0, 0) 0 [(0, .ref 0), (1, .int a1), (2, .int a2)] [] q _
  refine mf_aload_n 0 dX11_signal_0 rfl ?_
  refine mf_getr 11 1 dX11_signal_1 fl_X11_19 (by decide) (by decide) rfl (lf_o (w_lf hq)) (lf_r1 (w_lf hq)) (by decide) ?_
  refine mf_iconst (v := 3) dX11_signal_4 rfl ?_
  refine mf_iload_n 1 dX11_signal_5 rfl ?_
  refine mf_cVi (rest := []) [.int 3, .int a1] (aX5_has (d + 0) q hq 4 3 a1 pl4) mY_X5_has dX11_signal_6 ml_X11_134 (pl_o (w_pl hq pl4)) rfl rfl (Nat.le_of_ble_eq_true rfl) rfl (fun v1 => ?_)
  refine mf_if_ne (tgt := 14) dX11_signal_9 (by decide) ?_ ?_
  · refine mf_iload_n 2 dX11_signal_14 rfl ?_
    refine mf_case (v := 0) (tgt := 44) (off := 29) dX11_signal_15 (by decide) (by decide) (by decide) (by decide) ?_ (fun t15_0 => ?_)
    · refine mf_aload_n 0 dX11_signal_44 rfl ?_
      refine mf_getr 11 1 dX11_signal_45 fl_X11_19 (by decide) (by decide) rfl (lf_o (w_lf hq)) (lf_r1 (w_lf hq)) (by decide) ?_
      refine mf_getr 5 8 dX11_signal_48 fl_X11_169 (by decide) (by decide) rfl (pl_o (w_pl hq pl4)) (pl_r8 (w_pl hq pl4)) (by decide) ?_
      refine mf_iload_n 1 dX11_signal_51 rfl ?_
      refine mf_iald dX11_signal_52 (pl_a8 (w_pl hq pl4)) (fun v2 => ?_)
      exact mf_ireturn dX11_signal_53 rfl rfl ⟨rfl, rfl⟩
    refine mf_case (v := 1) (tgt := 54) (off := 39) dX11_signal_15 (by decide) (by decide) (by decide) (by decide) ?_ (fun t15_1 => ?_)
    · refine mf_aload_n 0 dX11_signal_54 rfl ?_
      refine mf_getr 11 1 dX11_signal_55 fl_X11_19 (by decide) (by decide) rfl (lf_o (w_lf hq)) (lf_r1 (w_lf hq)) (by decide) ?_
      refine mf_getr 5 9 dX11_signal_58 fl_X11_172 (by decide) (by decide) rfl (pl_o (w_pl hq pl4)) (pl_r9 (w_pl hq pl4)) (by decide) ?_
      refine mf_iload_n 1 dX11_signal_61 rfl ?_
      refine mf_iald dX11_signal_62 (pl_a9 (w_pl hq pl4)) (fun v3 => ?_)
      exact mf_ireturn dX11_signal_63 rfl rfl ⟨rfl, rfl⟩
    refine mf_case (v := 2) (tgt := 64) (off := 49) dX11_signal_15 (by decide) (by decide) (by decide) (by decide) ?_ (fun t15_2 => ?_)
    · refine mf_aload_n 0 dX11_signal_64 rfl ?_
      refine mf_getr 11 3 dX11_signal_65 fl_X11_35 (by decide) (by decide) rfl (lf_o (w_lf hq)) (lf_r3 (w_lf hq)) (by decide) ?_
      refine mf_iload_n 1 dX11_signal_68 rfl ?_
      refine mf_cVi (rest := []) [.int a1] (aX8_setRouteOf (d + 0) q hq 47 a1 st47) mY_X8_setRouteOf dX11_signal_69 ml_X11_175 (sa_o (w_st hq st47)) rfl rfl (Nat.le_of_ble_eq_true rfl) rfl (fun v4 => ?_)
      refine mf_iconst (v := -1) dX11_signal_72 rfl ?_
      refine mf_icmp_ne (tgt := 80) dX11_signal_73 (by decide) ?_ ?_
      · refine mf_iconst (v := 1) dX11_signal_80 rfl ?_
        exact mf_ireturn dX11_signal_81 rfl rfl ⟨rfl, rfl⟩
      · refine mf_iconst (v := 0) dX11_signal_76 rfl ?_
        refine mf_goto (tgt := 81) dX11_signal_77 (by decide) ?_
        exact mf_ireturn dX11_signal_81 rfl rfl ⟨rfl, rfl⟩
    refine mf_case (v := 3) (tgt := 82) (off := 67) dX11_signal_15 (by decide) (by decide) (by decide) (by decide) ?_ (fun t15_3 => ?_)
    · refine mf_aload_n 0 dX11_signal_82 rfl ?_
      refine mf_getr 11 1 dX11_signal_83 fl_X11_19 (by decide) (by decide) rfl (lf_o (w_lf hq)) (lf_r1 (w_lf hq)) (by decide) ?_
      refine mf_iload_n 1 dX11_signal_86 rfl ?_
      refine mf_cVi (rest := []) [.int a1] (aX5_routesOf (d + 0) q hq 4 a1 pl4) mY_X5_routesOf dX11_signal_87 ml_X11_178 (pl_o (w_pl hq pl4)) rfl rfl (Nat.le_of_ble_eq_true rfl) rfl (fun v5 => ?_)
      exact mf_ireturn dX11_signal_90 rfl rfl ⟨rfl, rfl⟩
    refine mf_dflt (tgt := 91) dX11_signal_15 (by have := lv_neT t15_0 (a := 0) (by decide); have := lv_neT t15_1 (a := 1) (by decide); have := lv_neT t15_2 (a := 2) (by decide); have := lv_neT t15_3 (a := 3) (by decide); omega) (by decide) ?_
    refine mf_iconst (v := -1) dX11_signal_91 rfl ?_
    exact mf_ireturn dX11_signal_92 rfl rfl ⟨rfl, rfl⟩
  · refine mf_iconst (v := -1) dX11_signal_12 rfl ?_
    exact mf_ireturn dX11_signal_13 rfl rfl ⟨rfl, rfl⟩
