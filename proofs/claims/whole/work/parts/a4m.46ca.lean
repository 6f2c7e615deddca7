set_option maxRecDepth 100000 in
set_option maxHeartbeats 4000000 in
theorem aX0_isAct (d : Nat) (q : m_S) (hq : isW q) (a1 : Int32) : AC rI yX0_isAct cX0_isAct 1 (some .boolean) (d + 1) [.int a1] q (fX0_isAct a1) := by
  refine ac_of (by decide +kernel) (Nat.le_of_ble_eq_true rfl) ?_
  unfold fX0_isAct
  show MF rI (yX0_isAct.cls, cX0_isAct, 1, (some .boolean), yX0_isAct.name, d + 1, 0, 0) 0 [(0, .int a1)] [] q _
  refine mf_iload_n 0 dX0_isAct_0 rfl ?_
  refine mf_bipush (v := 13) dX0_isAct_1 (by decide) ?_
  refine mf_icmp_eq (tgt := 36) dX0_isAct_3 (by decide) ?_ ?_
  · refine mf_iconst (v := 1) dX0_isAct_36 rfl ?_
    refine mf_goto (tgt := 41) dX0_isAct_37 (by decide) ?_
    exact mf_ireturn dX0_isAct_41 rfl rfl ⟨rfl, rfl⟩
  · refine mf_iload_n 0 dX0_isAct_6 rfl ?_
    refine mf_bipush (v := 14) dX0_isAct_7 (by decide) ?_
    refine mf_icmp_eq (tgt := 36) dX0_isAct_9 (by decide) ?_ ?_
    · refine mf_iconst (v := 1) dX0_isAct_36 rfl ?_
      refine mf_goto (tgt := 41) dX0_isAct_37 (by decide) ?_
      exact mf_ireturn dX0_isAct_41 rfl rfl ⟨rfl, rfl⟩
    · refine mf_iload_n 0 dX0_isAct_12 rfl ?_
      refine mf_bipush (v := 15) dX0_isAct_13 (by decide) ?_
      refine mf_icmp_eq (tgt := 36) dX0_isAct_15 (by decide) ?_ ?_
      · refine mf_iconst (v := 1) dX0_isAct_36 rfl ?_
        refine mf_goto (tgt := 41) dX0_isAct_37 (by decide) ?_
        exact mf_ireturn dX0_isAct_41 rfl rfl ⟨rfl, rfl⟩
      · refine mf_iload_n 0 dX0_isAct_18 rfl ?_
        refine mf_bipush (v := 16) dX0_isAct_19 (by decide) ?_
        refine mf_icmp_eq (tgt := 36) dX0_isAct_21 (by decide) ?_ ?_
        · refine mf_iconst (v := 1) dX0_isAct_36 rfl ?_
          refine mf_goto (tgt := 41) dX0_isAct_37 (by decide) ?_
          exact mf_ireturn dX0_isAct_41 rfl rfl ⟨rfl, rfl⟩
        · refine mf_iload_n 0 dX0_isAct_24 rfl ?_
          refine mf_bipush (v := 19) dX0_isAct_25 (by decide) ?_
          refine mf_icmp_eq (tgt := 36) dX0_isAct_27 (by decide) ?_ ?_
          · refine mf_iconst (v := 1) dX0_isAct_36 rfl ?_
            refine mf_goto (tgt := 41) dX0_isAct_37 (by decide) ?_
            exact mf_ireturn dX0_isAct_41 rfl rfl ⟨rfl, rfl⟩
          · refine mf_iload_n 0 dX0_isAct_30 rfl ?_
            refine mf_bipush (v := 20) dX0_isAct_31 (by decide) ?_
            refine mf_icmp_ne (tgt := 40) dX0_isAct_33 (by decide) ?_ ?_
            · refine mf_iconst (v := 0) dX0_isAct_40 rfl ?_
              exact mf_ireturn dX0_isAct_41 rfl rfl ⟨rfl, rfl⟩
            · refine mf_iconst (v := 1) dX0_isAct_36 rfl ?_
              refine mf_goto (tgt := 41) dX0_isAct_37 (by decide) ?_
              exact mf_ireturn dX0_isAct_41 rfl rfl ⟨rfl, rfl⟩
set_option maxRecDepth 100000 in
set_option maxHeartbeats 4000000 in
theorem aX11_sortOfAct (d : Nat) (q : m_S) (hq : isW q) (a1 : Int32) : AC rI yX11_sortOfAct cX11_sortOfAct 1 (some .int) (d + 1) [.int a1] q (fX11_sortOfAct a1) := by
  refine ac_of (by decide +kernel) (Nat.le_of_ble_eq_true rfl) ?_
  unfold fX11_sortOfAct
  show MF rI (yX11_sortOfAct.cls, cX11_sortOfAct, 1, (some .int), yX11_sortOfAct.name, d + 1, 0, 0) 0 [(0, .int a1)] [] q _
  refine mf_iload_n 0 dX11_sortOfAct_0 rfl ?_
  refine mf_bipush (v := 13) dX11_sortOfAct_1 (by decide) ?_
  refine mf_icmp_eq (tgt := 12) dX11_sortOfAct_3 (by decide) ?_ ?_
  · refine mf_iconst (v := 4) dX11_sortOfAct_12 rfl ?_
    exact mf_ireturn dX11_sortOfAct_13 rfl rfl ⟨rfl, rfl⟩
  · refine mf_iload_n 0 dX11_sortOfAct_6 rfl ?_
    refine mf_bipush (v := 14) dX11_sortOfAct_7 (by decide) ?_
    refine mf_icmp_ne (tgt := 14) dX11_sortOfAct_9 (by decide) ?_ ?_
    · refine mf_iload_n 0 dX11_sortOfAct_14 rfl ?_
      refine mf_bipush (v := 15) dX11_sortOfAct_15 (by decide) ?_
      refine mf_icmp_ne (tgt := 24) dX11_sortOfAct_17 (by decide) ?_ ?_
      · refine mf_iconst (v := 0) dX11_sortOfAct_24 rfl ?_
        exact mf_ireturn dX11_sortOfAct_25 rfl rfl ⟨rfl, rfl⟩
      · refine mf_iconst (v := 1) dX11_sortOfAct_20 rfl ?_
        refine mf_goto (tgt := 25) dX11_sortOfAct_21 (by decide) ?_
        exact mf_ireturn dX11_sortOfAct_25 rfl rfl ⟨rfl, rfl⟩
    · refine mf_iconst (v := 4) dX11_sortOfAct_12 rfl ?_
      exact mf_ireturn dX11_sortOfAct_13 rfl rfl ⟨rfl, rfl⟩
set_option maxRecDepth 100000 in
set_option maxHeartbeats 4000000 in
theorem aX0_readLine (d : Nat) (q : m_S) (hq : isW q)  : AC rI yX0_readLine cX0_readLine 6 (some .boolean) (d + 5) [.ref 126, .ref 1, .ref 4] q (fX0_readLine ) := by
  refine ac_of (by decide +kernel) (Nat.le_of_ble_eq_true rfl) ?_
  unfold fX0_readLine
  show MF rI (yX0_readLine.cls, cX0_readLine, 6, (some .boolean), yX0_readLine.name, d + 5, 0, 0) 0 [(0, .ref 126), (1, .ref 1), (2, .ref 4)] [] q _
  refine mf_aload_n 1 dX0_readLine_0 rfl ?_
  refine mf_geti 10 8 dX0_readLine_1 fl_X0_61 (by decide) (by decide) rfl (tx_o (w_tx hq)) (fun v1 => ?_)
  refine mf_istore_n [(3, .int v1), (0, .ref 126), (1, .ref 1), (2, .ref 4)] dX0_readLine_4 (Nat.le_of_ble_eq_true rfl) rfl ?_
  refine mf_iload_n 0 dX0_readLine_5 rfl ?_
  refine mf_cSi (rest := []) [.int v1] (aX0_isAct (d + 3) q hq v1) mY_X0_isAct dX0_readLine_6 ml_X0_64 rfl rfl (Nat.le_of_ble_eq_true rfl) rfl (fun v2 => ?_)
  refine mf_if_ne (tgt := 18) dX0_readLine_9 (by decide) ?_ ?_
  · refine mf_aload_n 1 dX0_readLine_18 rfl ?_
    refine mf_geti 0 3 dX0_readLine_19 fl_X0_21 (by decide) (by decide) rfl (bo_o (w_bo hq)) (fun v3 => ?_)
    refine mf_bipush (v := 40) dX0_readLine_22 (by decide) ?_
    refine mf_icmp_lt (tgt := 33) dX0_readLine_24 (by decide) ?_ ?_
    · refine mf_iload_n 0 dX0_readLine_33 rfl ?_
      refine mf_bipush (v := 20) dX0_readLine_34 (by decide) ?_
      refine mf_jo1 (pj := 58) (lvj := fun w4 => [(0, .ref 126), (1, .ref 1), (3, .int v1)]) (stj := fun w4 => [.int w4]) (fun w4 => ?_) (fun J58 hJ58 => ?_)
      · show MF rI (yX0_readLine.cls, cX0_readLine, 6, (some .boolean), yX0_readLine.name, d + 5, 0, 0) 58 [(0, .ref 126), (1, .ref 1), (3, .int v1)] [.int w4] q _
        refine mf_istore [(4, .int w4), (0, .ref 126), (1, .ref 1), (3, .int v1)] dX0_readLine_58 (Nat.le_of_ble_eq_true rfl) rfl ?_
        refine mf_iload 0 dX0_readLine_60 rfl ?_
        refine mf_iconst (v := -1) dX0_readLine_62 rfl ?_
        refine mf_icmp_ne (tgt := 68) dX0_readLine_63 (by decide) ?_ ?_
        · refine mf_iload_n 3 dX0_readLine_68 rfl ?_
          refine mf_bipush (v := 16) dX0_readLine_69 (by decide) ?_
          refine mf_jo1 (pj := 84) (lvj := fun w5 => [(0, .ref 126), (1, .ref 1), (3, .int v1), (4, .int w4)]) (stj := fun w5 => [.int w5]) (fun w5 => ?_) (fun J84 hJ84 => ?_)
          · show MF rI (yX0_readLine.cls, cX0_readLine, 6, (some .boolean), yX0_readLine.name, d + 5, 0, 0) 84 [(0, .ref 126), (1, .ref 1), (3, .int v1), (4, .int w4)] [.int w5] q _
            refine mf_istore [(5, .int w5), (0, .ref 126), (1, .ref 1), (3, .int v1), (4, .int w4)] dX0_readLine_84 (Nat.le_of_ble_eq_true rfl) rfl ?_
            refine mf_iload 0 dX0_readLine_86 rfl ?_
            refine mf_iconst (v := -1) dX0_readLine_88 rfl ?_
            refine mf_icmp_ne (tgt := 94) dX0_readLine_89 (by decide) ?_ ?_
            · refine mf_aload_n 1 dX0_readLine_94 rfl ?_
              refine mf_getr 0 0 dX0_readLine_95 fl_X0_9 (by decide) (by decide) rfl (bo_o (w_bo hq)) (bo_r0 (w_bo hq)) (by decide) ?_
              refine mf_aload_n 1 dX0_readLine_98 rfl ?_
              refine mf_geti 0 3 dX0_readLine_99 fl_X0_21 (by decide) (by decide) rfl (bo_o (w_bo hq)) (fun v6 => ?_)
              refine mf_iload_n 3 dX0_readLine_102 rfl ?_
              refine mf_iast dX0_readLine_103 (bo_a0 (w_bo hq)) ?_
              refine mf_aload_n 1 dX0_readLine_104 rfl ?_
              refine mf_getr 0 1 dX0_readLine_105 fl_X0_15 (by decide) (by decide) rfl (bo_o (w_bo hq)) (bo_r1 (w_bo hq)) (by decide) ?_
              refine mf_aload_n 1 dX0_readLine_108 rfl ?_
              refine mf_geti 0 3 dX0_readLine_109 fl_X0_21 (by decide) (by decide) rfl (bo_o (w_bo hq)) (fun v7 => ?_)
              refine mf_iload 4 dX0_readLine_112 rfl ?_
              refine mf_iast dX0_readLine_114 (bo_a1 (w_bo hq)) ?_
              refine mf_aload_n 1 dX0_readLine_115 rfl ?_
              refine mf_getr 0 2 dX0_readLine_116 fl_X0_18 (by decide) (by decide) rfl (bo_o (w_bo hq)) (bo_r2 (w_bo hq)) (by decide) ?_
              refine mf_aload_n 1 dX0_readLine_119 rfl ?_
              refine mf_geti 0 3 dX0_readLine_120 fl_X0_21 (by decide) (by decide) rfl (bo_o (w_bo hq)) (fun v8 => ?_)
              refine mf_iload 0 dX0_readLine_123 rfl ?_
              refine mf_iast dX0_readLine_125 (bo_a2 (w_bo hq)) ?_
              refine mf_aload_n 2 dX0_readLine_126 rfl ?_
              refine mf_cVv (rest := []) [] (aX10_next (d + 1) q hq) mY_X10_next dX0_readLine_127 ml_X0_47 (tx_o (w_tx hq)) rfl rfl (Nat.le_of_ble_eq_true rfl) rfl (fun _ => ?_)
              refine mf_iconst (v := 1) dX0_readLine_130 rfl ?_
              exact mf_ireturn dX0_readLine_131 rfl rfl ⟨rfl, rfl⟩
            · refine mf_iconst (v := 0) dX0_readLine_92 rfl ?_
              exact mf_ireturn dX0_readLine_93 rfl rfl ⟨rfl, rfl⟩
          refine mf_icmp_ne (tgt := 83) dX0_readLine_71 (by decide) ?_ ?_
          · refine mf_iconst (v := 0) dX0_readLine_83 rfl ?_
            refine mf_sub [1, 2, 3, 0] rfl ?_
            exact hJ84 _
          · refine mf_aload_n 2 dX0_readLine_74 rfl ?_
            refine mf_bipush (v := 17) dX0_readLine_75 (by decide) ?_
            refine mf_cVi (rest := []) [.int 17] (aX10_nextOfTwo (d + 0) q hq 17) mY_X10_nextOfTwo dX0_readLine_77 ml_X0_83 (tx_o (w_tx hq)) rfl rfl (Nat.le_of_ble_eq_true rfl) rfl (fun v9 => ?_)
            refine mf_goto (tgt := 84) dX0_readLine_80 (by decide) ?_
            refine mf_sub [1, 2, 3, 0] rfl ?_
            exact hJ84 _
        · refine mf_iconst (v := 0) dX0_readLine_66 rfl ?_
          exact mf_ireturn dX0_readLine_67 rfl rfl ⟨rfl, rfl⟩
      refine mf_icmp_ne (tgt := 49) dX0_readLine_36 (by decide) ?_ ?_
      · refine mf_aload_n 2 dX0_readLine_49 rfl ?_
        refine mf_aload_n 3 dX0_readLine_50 rfl ?_
        refine mf_iload_n 0 dX0_readLine_51 rfl ?_
        refine mf_cSNi (rest := [.ref 4, .ref 1]) [.int v1] (aX11_sortOfAct (d + 3) q hq v1) mY_X11_sortOfAct dX0_readLine_52 nl_X0_75 rfl rfl (Nat.le_of_ble_eq_true rfl) rfl (fun v10 => ?_)
        refine mf_cVi (rest := []) [.ref 4, .int v10] (aX10_nextNamed (d + 0) q hq 4 v10 pl4) mY_X10_nextNamed dX0_readLine_55 ml_X0_79 (tx_o (w_tx hq)) rfl rfl (Nat.le_of_ble_eq_true rfl) rfl (fun v11 => ?_)
        refine mf_sub [1, 2, 0] rfl ?_
        exact hJ58 _
      · refine mf_aload_n 2 dX0_readLine_39 rfl ?_
        refine mf_iconst (v := 1) dX0_readLine_40 rfl ?_
        refine mf_bipush (v := 60) dX0_readLine_41 (by decide) ?_
        refine mf_cVi (rest := []) [.int 1, .int 60] (aX10_nextNumber (d + 0) q hq 1 60) mY_X10_nextNumber dX0_readLine_43 ml_X0_71 (tx_o (w_tx hq)) rfl rfl (Nat.le_of_ble_eq_true rfl) rfl (fun v12 => ?_)
        refine mf_goto (tgt := 58) dX0_readLine_46 (by decide) ?_
        refine mf_sub [1, 2, 0] rfl ?_
        exact hJ58 _
    · refine mf_aload_n 2 dX0_readLine_27 rfl ?_
      refine mf_iconst (v := 4) dX0_readLine_28 rfl ?_
      refine mf_cVi (rest := []) [.int 4] (aX10_wrong (d + 3) q hq 4) mY_X10_wrong dX0_readLine_29 ml_X0_68 (tx_o (w_tx hq)) rfl rfl (Nat.le_of_ble_eq_true rfl) rfl (fun v13 => ?_)
      exact mf_zreturn dX0_readLine_32 rfl ⟨rfl, rfl⟩
  · refine mf_aload_n 2 dX0_readLine_12 rfl ?_
    refine mf_iconst (v := 1) dX0_readLine_13 rfl ?_
    refine mf_cVi (rest := []) [.int 1] (aX10_wrong (d + 3) q hq 1) mY_X10_wrong dX0_readLine_14 ml_X0_68 (tx_o (w_tx hq)) rfl rfl (Nat.le_of_ble_eq_true rfl) rfl (fun v14 => ?_)
    exact mf_zreturn dX0_readLine_17 rfl ⟨rfl, rfl⟩
set_option maxRecDepth 100000 in
set_option maxHeartbeats 4000000 in
theorem aX0_readLines (d : Nat) (q : m_S) (hq : isW q)  : AC rI yX0_readLines cX0_readLines 3 (some .boolean) (d + 6) [.ref 126, .ref 1, .ref 4] q (fX0_readLines ) := by
  refine ac_of (by decide +kernel) (Nat.le_of_ble_eq_true rfl) ?_
  unfold fX0_readLines
  show MF rI (yX0_readLines.cls, cX0_readLines, 3, (some .boolean), yX0_readLines.name, d + 6, 0, 0) 0 [(0, .ref 126), (1, .ref 1), (2, .ref 4)] [] q _
  refine mf_aload_n 1 dX0_readLines_0 rfl ?_
  refine mf_sipush (v := 400) dX0_readLines_1 (by decide) ?_
  refine mf_cVv (rest := []) [.int 400] (aX10_begin (d + 4) q hq 400) mY_X10_begin dX0_readLines_4 ml_X0_41 (tx_o (w_tx hq)) rfl rfl (Nat.le_of_ble_eq_true rfl) rfl (fun _ => ?_)
  refine mf_aload_n 0 dX0_readLines_7 rfl ?_
  refine mf_iconst (v := 0) dX0_readLines_8 rfl ?_
  refine mf_puti 0 3 dX0_readLines_9 fl_X0_21 (by decide) (by decide) rfl rfl (bo_o (w_bo hq)) ?_
  refine mf_aload_n 1 dX0_readLines_12 rfl ?_
  refine mf_cVv (rest := []) [] (aX10_next (d + 2) q hq) mY_X10_next dX0_readLines_13 ml_X0_47 (tx_o (w_tx hq)) rfl rfl (Nat.le_of_ble_eq_true rfl) rfl (fun _ => ?_)
  refine mf_lz0 (fun L16 h16  => ?_) _
  show MF rI (yX0_readLines.cls, cX0_readLines, 3, (some .boolean), yX0_readLines.name, d + 6, 0, 0) 16 [(0, .ref 126), (1, .ref 1), (2, .ref 4)] [] q _
  refine mf_aload_n 1 dX0_readLines_16 rfl ?_
  refine mf_geti 10 4 dX0_readLines_17 fl_X0_50 (by decide) (by decide) rfl (tx_o (w_tx hq)) (fun v1 => ?_)
  refine mf_if_eq (tgt := 69) dX0_readLines_20 (by decide) ?_ ?_
  · refine mf_iconst (v := 1) dX0_readLines_69 rfl ?_
    exact mf_ireturn dX0_readLines_70 rfl rfl ⟨rfl, rfl⟩
  · refine mf_aload_n 0 dX0_readLines_23 rfl ?_
    refine mf_geti 0 3 dX0_readLines_24 fl_X0_21 (by decide) (by decide) rfl (bo_o (w_bo hq)) (fun v2 => ?_)
    refine mf_bipush (v := 40) dX0_readLines_27 (by decide) ?_
    refine mf_icmp_gt (tgt := 69) dX0_readLines_29 (by decide) ?_ ?_
    · refine mf_iconst (v := 1) dX0_readLines_69 rfl ?_
      exact mf_ireturn dX0_readLines_70 rfl rfl ⟨rfl, rfl⟩
    · refine mf_aload_n 0 dX0_readLines_32 rfl ?_
      refine mf_aload_n 1 dX0_readLines_33 rfl ?_
      refine mf_aload_n 2 dX0_readLines_34 rfl ?_
      refine mf_cVi (rest := []) [.ref 1, .ref 4] (aX0_readLine (d + 0) q hq) mY_X0_readLine dX0_readLines_35 ml_X0_53 (bo_o (w_bo hq)) rfl rfl (Nat.le_of_ble_eq_true rfl) rfl (fun v3 => ?_)
      refine mf_if_eq (tgt := 50) dX0_readLines_38 (by decide) ?_ ?_
      · refine mf_iconst (v := 0) dX0_readLines_50 rfl ?_
        exact mf_ireturn dX0_readLines_51 rfl rfl ⟨rfl, rfl⟩
      · refine mf_aload_n 1 dX0_readLines_41 rfl ?_
        refine mf_bipush (v := 59) dX0_readLines_42 (by decide) ?_
        refine mf_cVi (rest := []) [.int 59] (aX10_mustBe (d + 3) q hq 59) mY_X10_mustBe dX0_readLines_44 ml_X0_57 (tx_o (w_tx hq)) rfl rfl (Nat.le_of_ble_eq_true rfl) rfl (fun v4 => ?_)
        refine mf_if_ne (tgt := 52) dX0_readLines_47 (by decide) ?_ ?_
        · refine mf_aload_n 0 dX0_readLines_52 rfl ?_
          refine mf_dup dX0_readLines_53 rfl ?_
          refine mf_geti 0 3 dX0_readLines_54 fl_X0_21 (by decide) (by decide) rfl (bo_o (w_bo hq)) (fun v5 => ?_)
          refine mf_iconst (v := 1) dX0_readLines_57 rfl ?_
          refine mf_iadd dX0_readLines_58 ?_
          refine mf_puti 0 3 dX0_readLines_59 fl_X0_21 (by decide) (by decide) rfl rfl (bo_o (w_bo hq)) ?_
          refine mf_aload_n 1 dX0_readLines_62 rfl ?_
          refine mf_cVv (rest := []) [] (aX10_next (d + 2) q hq) mY_X10_next dX0_readLines_63 ml_X0_47 (tx_o (w_tx hq)) rfl rfl (Nat.le_of_ble_eq_true rfl) rfl (fun _ => ?_)
          refine mf_goto (tgt := 16) dX0_readLines_66 (by decide) ?_
          exact h16
        · refine mf_iconst (v := 0) dX0_readLines_50 rfl ?_
          exact mf_ireturn dX0_readLines_51 rfl rfl ⟨rfl, rfl⟩
set_option maxRecDepth 100000 in
set_option maxHeartbeats 4000000 in
theorem aX0_tensOf (d : Nat) (q : m_S) (hq : isW q) (a1 : Int32) : AC rI yX0_tensOf cX0_tensOf 1 (some .int) (d + 1) [.int a1] q (fX0_tensOf a1) := by
  refine ac_of (by decide +kernel) (Nat.le_of_ble_eq_true rfl) ?_
  unfold fX0_tensOf
  show MF rI (yX0_tensOf.cls, cX0_tensOf, 1, (some .int), yX0_tensOf.name, d + 1, 0, 0) 0 [(0, .int a1)] [] q _
  refine mf_iload_n 0 dX0_tensOf_0 rfl ?_
  refine mf_case (v := 14) (tgt := 40) (off := 39) dX0_tensOf_1 (by decide) (by decide) (by decide) (by decide) ?_ (fun t1_0 => ?_)
  · refine mf_bipush (v := 10) dX0_tensOf_40 (by decide) ?_
    exact mf_ireturn dX0_tensOf_42 rfl rfl ⟨rfl, rfl⟩
  refine mf_case (v := 15) (tgt := 43) (off := 42) dX0_tensOf_1 (by decide) (by decide) (by decide) (by decide) ?_ (fun t1_1 => ?_)
  · refine mf_bipush (v := 20) dX0_tensOf_43 (by decide) ?_
    exact mf_ireturn dX0_tensOf_45 rfl rfl ⟨rfl, rfl⟩
  refine mf_case (v := 16) (tgt := 46) (off := 45) dX0_tensOf_1 (by decide) (by decide) (by decide) (by decide) ?_ (fun t1_2 => ?_)
  · refine mf_bipush (v := 30) dX0_tensOf_46 (by decide) ?_
    exact mf_ireturn dX0_tensOf_48 rfl rfl ⟨rfl, rfl⟩
  refine mf_case (v := 17) (tgt := 52) (off := 51) dX0_tensOf_1 (by decide) (by decide) (by decide) (by decide) ?_ (fun t1_3 => ?_)
  · refine mf_iconst (v := 0) dX0_tensOf_52 rfl ?_
    exact mf_ireturn dX0_tensOf_53 rfl rfl ⟨rfl, rfl⟩
  refine mf_case (v := 18) (tgt := 52) (off := 51) dX0_tensOf_1 (by decide) (by decide) (by decide) (by decide) ?_ (fun t1_4 => ?_)
  · refine mf_iconst (v := 0) dX0_tensOf_52 rfl ?_
    exact mf_ireturn dX0_tensOf_53 rfl rfl ⟨rfl, rfl⟩
  refine mf_case (v := 19) (tgt := 49) (off := 48) dX0_tensOf_1 (by decide) (by decide) (by decide) (by decide) ?_ (fun t1_5 => ?_)
  · refine mf_bipush (v := 40) dX0_tensOf_49 (by decide) ?_
    exact mf_ireturn dX0_tensOf_51 rfl rfl ⟨rfl, rfl⟩
  refine mf_dflt (tgt := 52) dX0_tensOf_1 (by have := lv_neT t1_0 (a := 14) (by decide); have := lv_neT t1_1 (a := 15) (by decide); have := lv_neT t1_2 (a := 16) (by decide); have := lv_neT t1_3 (a := 17) (by decide); have := lv_neT t1_4 (a := 18) (by decide); have := lv_neT t1_5 (a := 19) (by decide); omega) (by decide) ?_
  refine mf_iconst (v := 0) dX0_tensOf_52 rfl ?_
  exact mf_ireturn dX0_tensOf_53 rfl rfl ⟨rfl, rfl⟩
set_option maxRecDepth 100000 in
set_option maxHeartbeats 4000000 in
theorem aX0_liveLine (d : Nat) (q : m_S) (hq : isW q) (a1 : Int32) : AC rI yX0_liveLine cX0_liveLine 4 (some .int) (d + 6) [.ref 126, .ref 54, .int a1] q (fX0_liveLine a1) := by
  refine ac_of (by decide +kernel) (Nat.le_of_ble_eq_true rfl) ?_
  unfold fX0_liveLine
  show MF rI (yX0_liveLine.cls, cX0_liveLine, 4, (some .int), yX0_liveLine.name, d + 6, 0, 0) 0 [(0, .ref 126), (1, .ref 54), (2, .int a1)] [] q _
  refine mf_aload_n 0 dX0_liveLine_0 rfl ?_
  refine mf_getr 0 0 dX0_liveLine_1 fl_X0_9 (by decide) (by decide) rfl (bo_o (w_bo hq)) (bo_r0 (w_bo hq)) (by decide) ?_
  refine mf_iload_n 2 dX0_liveLine_4 rfl ?_
  refine mf_iald dX0_liveLine_5 (bo_a0 (w_bo hq)) (fun v1 => ?_)
  refine mf_bipush (v := 20) dX0_liveLine_6 (by decide) ?_
  refine mf_icmp_ne (tgt := 44) dX0_liveLine_8 (by decide) ?_ ?_
  · refine mf_aload_n 1 dX0_liveLine_44 rfl ?_
    refine mf_aload_n 0 dX0_liveLine_45 rfl ?_
    refine mf_getr 0 0 dX0_liveLine_46 fl_X0_9 (by decide) (by decide) rfl (bo_o (w_bo hq)) (bo_r0 (w_bo hq)) (by decide) ?_
    refine mf_iload_n 2 dX0_liveLine_49 rfl ?_
    refine mf_iald dX0_liveLine_50 (bo_a0 (w_bo hq)) (fun v2 => ?_)
    refine mf_aload_n 0 dX0_liveLine_51 rfl ?_
    refine mf_getr 0 1 dX0_liveLine_52 fl_X0_15 (by decide) (by decide) rfl (bo_o (w_bo hq)) (bo_r1 (w_bo hq)) (by decide) ?_
    refine mf_iload_n 2 dX0_liveLine_55 rfl ?_
    refine mf_iald dX0_liveLine_56 (bo_a1 (w_bo hq)) (fun v3 => ?_)
    refine mf_aload_n 0 dX0_liveLine_57 rfl ?_
    refine mf_getr 0 2 dX0_liveLine_58 fl_X0_18 (by decide) (by decide) rfl (bo_o (w_bo hq)) (bo_r2 (w_bo hq)) (by decide) ?_
    refine mf_iload_n 2 dX0_liveLine_61 rfl ?_
    refine mf_iald dX0_liveLine_62 (bo_a2 (w_bo hq)) (fun v4 => ?_)
    refine mf_cVi (rest := []) [.int v2, .int v3, .int v4] (aX8_perform (d + 0) q hq 54 v2 v3 v4 st54) mY_X8_perform dX0_liveLine_63 ml_X0_102 (sa_o (w_st hq st54)) rfl rfl (Nat.le_of_ble_eq_true rfl) rfl (fun v5 => ?_)
    refine mf_istore_n [(3, .int v5), (0, .ref 126), (1, .ref 54), (2, .int a1)] dX0_liveLine_66 (Nat.le_of_ble_eq_true rfl) rfl ?_
    refine mf_iload_n 0 dX0_liveLine_67 rfl ?_
    refine mf_if_ne (tgt := 75) dX0_liveLine_68 (by decide) ?_ ?_
    · refine mf_aload_n 1 dX0_liveLine_75 rfl ?_
      refine mf_getr 0 0 dX0_liveLine_76 fl_X0_9 (by decide) (by decide) rfl (bo_o (w_bo hq)) (bo_r0 (w_bo hq)) (by decide) ?_
      refine mf_iload_n 3 dX0_liveLine_79 rfl ?_
      refine mf_iald dX0_liveLine_80 (bo_a0 (w_bo hq)) (fun v6 => ?_)
      refine mf_cSi (rest := []) [.int v6] (aX0_tensOf (d + 4) q hq v6) mY_X0_tensOf dX0_liveLine_81 ml_X0_106 rfl rfl (Nat.le_of_ble_eq_true rfl) rfl (fun v7 => ?_)
      refine mf_iload_n 0 dX0_liveLine_84 rfl ?_
      refine mf_iadd dX0_liveLine_85 ?_
      exact mf_ireturn dX0_liveLine_86 rfl rfl ⟨rfl, rfl⟩
    · refine mf_iconst (v := 0) dX0_liveLine_71 rfl ?_
      refine mf_goto (tgt := 86) dX0_liveLine_72 (by decide) ?_
      exact mf_ireturn dX0_liveLine_86 rfl rfl ⟨rfl, rfl⟩
  · refine mf_aload_n 1 dX0_liveLine_11 rfl ?_
    refine mf_geti 8 1 dX0_liveLine_12 fl_X0_90 (by decide) (by decide) rfl (sa_o (w_st hq st54)) (fun v8 => ?_)
    refine mf_aload_n 0 dX0_liveLine_15 rfl ?_
    refine mf_getr 0 1 dX0_liveLine_16 fl_X0_15 (by decide) (by decide) rfl (bo_o (w_bo hq)) (bo_r1 (w_bo hq)) (by decide) ?_
    refine mf_iload_n 2 dX0_liveLine_19 rfl ?_
    refine mf_iald dX0_liveLine_20 (bo_a1 (w_bo hq)) (fun v9 => ?_)
    refine mf_iadd dX0_liveLine_21 ?_
    refine mf_sipush (v := 1000) dX0_liveLine_22 (by decide) ?_
    refine mf_icmp_le (tgt := 31) dX0_liveLine_25 (by decide) ?_ ?_
    · refine mf_aload_n 1 dX0_liveLine_31 rfl ?_
      refine mf_aload_n 0 dX0_liveLine_32 rfl ?_
      refine mf_getr 0 1 dX0_liveLine_33 fl_X0_15 (by decide) (by decide) rfl (bo_o (w_bo hq)) (bo_r1 (w_bo hq)) (by decide) ?_
      refine mf_iload_n 2 dX0_liveLine_36 rfl ?_
      refine mf_iald dX0_liveLine_37 (bo_a1 (w_bo hq)) (fun v10 => ?_)
      refine mf_cVi (rest := []) [.int v10] (aX8_passTicks (d + 0) q hq 54 v10 st54) mY_X8_passTicks dX0_liveLine_38 ml_X0_99 (sa_o (w_st hq st54)) rfl rfl (Nat.le_of_ble_eq_true rfl) rfl (fun v11 => ?_)
      refine mf_pop dX0_liveLine_41 rfl ?_
      refine mf_iconst (v := 0) dX0_liveLine_42 rfl ?_
      exact mf_ireturn dX0_liveLine_43 rfl rfl ⟨rfl, rfl⟩
    · refine mf_bipush (v := 51) dX0_liveLine_28 (by decide) ?_
      exact mf_ireturn dX0_liveLine_30 rfl rfl ⟨rfl, rfl⟩
set_option maxRecDepth 100000 in
set_option maxHeartbeats 4000000 in
theorem aX0_judge (d : Nat) (q : m_S) (hq : isW q)  : AC rI yX0_judge cX0_judge 2 (some .int) (d + 7) [.ref 126, .ref 54] q (fX0_judge ) := by
  refine ac_of (by decide +kernel) (Nat.le_of_ble_eq_true rfl) ?_
  unfold fX0_judge
  show MF rI (yX0_judge.cls, cX0_judge, 2, (some .int), yX0_judge.name, d + 7, 0, 0) 0 [(0, .ref 126), (1, .ref 54)] [] q _
  refine mf_aload_n 0 dX0_judge_0 rfl ?_
  refine mf_iconst (v := 0) dX0_judge_1 rfl ?_
  refine mf_puti 0 5 dX0_judge_2 fl_X0_29 (by decide) (by decide) rfl rfl (bo_o (w_bo hq)) ?_
  refine mf_aload_n 0 dX0_judge_5 rfl ?_
  refine mf_iconst (v := 0) dX0_judge_6 rfl ?_
  refine mf_puti 0 6 dX0_judge_7 fl_X0_32 (by decide) (by decide) rfl rfl (bo_o (w_bo hq)) ?_
  refine mf_lz0 (fun L10 h10  => ?_) _
  show MF rI (yX0_judge.cls, cX0_judge, 2, (some .int), yX0_judge.name, d + 7, 0, 0) 10 [(0, .ref 126), (1, .ref 54)] [] q _
  refine mf_aload_n 0 dX0_judge_10 rfl ?_
  refine mf_geti 0 5 dX0_judge_11 fl_X0_29 (by decide) (by decide) rfl (bo_o (w_bo hq)) (fun v1 => ?_)
  refine mf_jo0 (pj := 61) (lvj := [(0, .ref 126), (1, .ref 54)]) (stj := []) ?_ (fun J61 hJ61 => ?_)
  · show MF rI (yX0_judge.cls, cX0_judge, 2, (some .int), yX0_judge.name, d + 7, 0, 0) 61 [(0, .ref 126), (1, .ref 54)] [] q _
    refine mf_aload_n 0 dX0_judge_61 rfl ?_
    refine mf_iconst (v := 1) dX0_judge_62 rfl ?_
    refine mf_putzc 0 4 dX0_judge_63 fl_X0_25 (by decide) (by decide) rfl rfl (bo_o (w_bo hq)) (by decide) ?_
    refine mf_aload_n 0 dX0_judge_66 rfl ?_
    refine mf_aload_n 1 dX0_judge_67 rfl ?_
    refine mf_geti 8 1 dX0_judge_68 fl_X0_90 (by decide) (by decide) rfl (sa_o (w_st hq st54)) (fun v2 => ?_)
    refine mf_puti 0 7 dX0_judge_71 fl_X0_35 (by decide) (by decide) rfl rfl (bo_o (w_bo hq)) ?_
    refine mf_aload_n 0 dX0_judge_74 rfl ?_
    refine mf_aload_n 1 dX0_judge_75 rfl ?_
    refine mf_cVi (rest := [.ref 126]) [] (aX8_notFree (d + 5) q hq 54 st54) mY_X8_notFree dX0_judge_76 ml_X0_95 (sa_o (w_st hq st54)) rfl rfl (Nat.le_of_ble_eq_true rfl) rfl (fun v3 => ?_)
    refine mf_puti 0 8 dX0_judge_79 fl_X0_38 (by decide) (by decide) rfl rfl (bo_o (w_bo hq)) ?_
    refine mf_aload_n 0 dX0_judge_82 rfl ?_
    refine mf_geti 0 5 dX0_judge_83 fl_X0_29 (by decide) (by decide) rfl (bo_o (w_bo hq)) (fun v4 => ?_)
    refine mf_if_ne (tgt := 93) dX0_judge_86 (by decide) ?_ ?_
    · refine mf_aload_n 0 dX0_judge_93 rfl ?_
      refine mf_geti 0 6 dX0_judge_94 fl_X0_32 (by decide) (by decide) rfl (bo_o (w_bo hq)) (fun v5 => ?_)
      exact mf_ireturn dX0_judge_97 rfl rfl ⟨rfl, rfl⟩
    · refine mf_iconst (v := -1) dX0_judge_89 rfl ?_
      refine mf_goto (tgt := 97) dX0_judge_90 (by decide) ?_
      exact mf_ireturn dX0_judge_97 rfl rfl ⟨rfl, rfl⟩
  refine mf_if_ne (tgt := 61) dX0_judge_14 (by decide) ?_ ?_
  · exact hJ61
  · refine mf_aload_n 0 dX0_judge_17 rfl ?_
    refine mf_geti 0 6 dX0_judge_18 fl_X0_32 (by decide) (by decide) rfl (bo_o (w_bo hq)) (fun v6 => ?_)
    refine mf_aload_n 0 dX0_judge_21 rfl ?_
    refine mf_geti 0 3 dX0_judge_22 fl_X0_21 (by decide) (by decide) rfl (bo_o (w_bo hq)) (fun v7 => ?_)
    refine mf_icmp_ge (tgt := 61) dX0_judge_25 (by decide) ?_ ?_
    · exact hJ61
    · refine mf_aload_n 0 dX0_judge_28 rfl ?_
      refine mf_aload_n 0 dX0_judge_29 rfl ?_
      refine mf_aload_n 1 dX0_judge_30 rfl ?_
      refine mf_aload_n 0 dX0_judge_31 rfl ?_
      refine mf_geti 0 6 dX0_judge_32 fl_X0_32 (by decide) (by decide) rfl (bo_o (w_bo hq)) (fun v8 => ?_)
      refine mf_cVi (rest := [.ref 126]) [.ref 54, .int v8] (aX0_liveLine (d + 0) q hq v8) mY_X0_liveLine dX0_judge_35 ml_X0_86 (bo_o (w_bo hq)) rfl rfl (Nat.le_of_ble_eq_true rfl) rfl (fun v9 => ?_)
      refine mf_puti 0 5 dX0_judge_38 fl_X0_29 (by decide) (by decide) rfl rfl (bo_o (w_bo hq)) ?_
      refine mf_aload_n 0 dX0_judge_41 rfl ?_
      refine mf_geti 0 5 dX0_judge_42 fl_X0_29 (by decide) (by decide) rfl (bo_o (w_bo hq)) (fun v10 => ?_)
      refine mf_if_ne (tgt := 10) dX0_judge_45 (by decide) ?_ ?_
      · exact h10
      · refine mf_aload_n 0 dX0_judge_48 rfl ?_
        refine mf_dup dX0_judge_49 rfl ?_
        refine mf_geti 0 6 dX0_judge_50 fl_X0_32 (by decide) (by decide) rfl (bo_o (w_bo hq)) (fun v11 => ?_)
        refine mf_iconst (v := 1) dX0_judge_53 rfl ?_
        refine mf_iadd dX0_judge_54 ?_
        refine mf_puti 0 6 dX0_judge_55 fl_X0_32 (by decide) (by decide) rfl rfl (bo_o (w_bo hq)) ?_
        refine mf_goto (tgt := 10) dX0_judge_58 (by decide) ?_
        exact h10
set_option maxRecDepth 100000 in
set_option maxHeartbeats 4000000 in
theorem aX0_tellJudgement (d : Nat) (q : m_S) (hq : isW q) (a1 : Int32) : AC rI yX0_tellJudgement cX0_tellJudgement 2 (some .int) (d + 1) [.ref 126, .int a1] q (fX0_tellJudgement a1) := by
  refine ac_of (by decide +kernel) (Nat.le_of_ble_eq_true rfl) ?_
  unfold fX0_tellJudgement
  show MF rI (yX0_tellJudgement.cls, cX0_tellJudgement, 2, (some .int), yX0_tellJudgement.name, d + 1, 0, 0) 0 [(0, .ref 126), (1, .int a1)] [] q _
  refine mf_aload_n 0 dX0_tellJudgement_0 rfl ?_
  refine mf_geti 0 4 dX0_tellJudgement_1 fl_X0_25 (by decide) (by decide) rfl (bo_o (w_bo hq)) (fun v1 => ?_)
  refine mf_if_ne (tgt := 9) dX0_tellJudgement_4 (by decide) ?_ ?_
  · refine mf_iload_n 1 dX0_tellJudgement_9 rfl ?_
    refine mf_case (v := 0) (tgt := 40) (off := 30) dX0_tellJudgement_10 (by decide) (by decide) (by decide) (by decide) ?_ (fun t10_0 => ?_)
    · refine mf_aload_n 0 dX0_tellJudgement_40 rfl ?_
      refine mf_geti 0 5 dX0_tellJudgement_41 fl_X0_29 (by decide) (by decide) rfl (bo_o (w_bo hq)) (fun v2 => ?_)
      exact mf_ireturn dX0_tellJudgement_44 rfl rfl ⟨rfl, rfl⟩
    refine mf_case (v := 1) (tgt := 45) (off := 35) dX0_tellJudgement_10 (by decide) (by decide) (by decide) (by decide) ?_ (fun t10_1 => ?_)
    · refine mf_aload_n 0 dX0_tellJudgement_45 rfl ?_
      refine mf_geti 0 6 dX0_tellJudgement_46 fl_X0_32 (by decide) (by decide) rfl (bo_o (w_bo hq)) (fun v3 => ?_)
      exact mf_ireturn dX0_tellJudgement_49 rfl rfl ⟨rfl, rfl⟩
    refine mf_case (v := 2) (tgt := 50) (off := 40) dX0_tellJudgement_10 (by decide) (by decide) (by decide) (by decide) ?_ (fun t10_2 => ?_)
    · refine mf_aload_n 0 dX0_tellJudgement_50 rfl ?_
      refine mf_geti 0 7 dX0_tellJudgement_51 fl_X0_35 (by decide) (by decide) rfl (bo_o (w_bo hq)) (fun v4 => ?_)
      exact mf_ireturn dX0_tellJudgement_54 rfl rfl ⟨rfl, rfl⟩
    refine mf_case (v := 3) (tgt := 55) (off := 45) dX0_tellJudgement_10 (by decide) (by decide) (by decide) (by decide) ?_ (fun t10_3 => ?_)
    · refine mf_aload_n 0 dX0_tellJudgement_55 rfl ?_
      refine mf_geti 0 8 dX0_tellJudgement_56 fl_X0_38 (by decide) (by decide) rfl (bo_o (w_bo hq)) (fun v5 => ?_)
      exact mf_ireturn dX0_tellJudgement_59 rfl rfl ⟨rfl, rfl⟩
    refine mf_dflt (tgt := 60) dX0_tellJudgement_10 (by have := lv_neT t10_0 (a := 0) (by decide); have := lv_neT t10_1 (a := 1) (by decide); have := lv_neT t10_2 (a := 2) (by decide); have := lv_neT t10_3 (a := 3) (by decide); omega) (by decide) ?_
    refine mf_iconst (v := -1) dX0_tellJudgement_60 rfl ?_
    exact mf_ireturn dX0_tellJudgement_61 rfl rfl ⟨rfl, rfl⟩
  · refine mf_iconst (v := -1) dX0_tellJudgement_7 rfl ?_
    exact mf_ireturn dX0_tellJudgement_8 rfl rfl ⟨rfl, rfl⟩
set_option maxRecDepth 100000 in
set_option maxHeartbeats 4000000 in
theorem aX1_addPulls (d : Nat) (q : m_S) (hq : isW q) (a1 : Int32) (a2 : Int32) (a3 : Int32) : AC rU yX1_addPulls cX1_addPulls 5 none (d + 1) [.ref 141, .int a1, .int a2, .int a3] q (fX1_addPulls a1 a2 a3) := by
  refine ac_of (by decide +kernel) (Nat.le_of_ble_eq_true rfl) ?_
  unfold fX1_addPulls
  show MF rU (yX1_addPulls.cls, cX1_addPulls, 5, none, yX1_addPulls.name, d + 1, 0, 0) 0 [(0, .ref 141), (1, .int a1), (2, .int a2), (3, .int a3)] [] q _
  refine mf_iconst (v := 0) dX1_addPulls_0 rfl ?_
  refine mf_istore [(4, .int 0), (0, .ref 141), (1, .int a1), (2, .int a2), (3, .int a3)] dX1_addPulls_1 (Nat.le_of_ble_eq_true rfl) rfl ?_
  refine mf_sub [1, 2, 3, 4, 0] rfl ?_
  refine mf_lz1 (lv := fun x1 => [(0, .ref 141), (1, .int a1), (2, .int a2), (3, .int a3), (4, .int x1)]) (fun L3 h3 x1 => ?_) _ _
  show MF rU (yX1_addPulls.cls, cX1_addPulls, 5, none, yX1_addPulls.name, d + 1, 0, 0) 3 [(0, .ref 141), (1, .int a1), (2, .int a2), (3, .int a3), (4, .int x1)] [] q _
  refine mf_iload 4 dX1_addPulls_3 rfl ?_
  refine mf_iload_n 2 dX1_addPulls_5 rfl ?_
  refine mf_icmp_ge (tgt := 60) dX1_addPulls_6 (by decide) ?_ ?_
  · exact mf_return dX1_addPulls_60 rfl ⟨rfl, rfl⟩
  · refine mf_iload_n 1 dX1_addPulls_9 rfl ?_
    refine mf_iload 4 dX1_addPulls_10 rfl ?_
    refine mf_ishr dX1_addPulls_12 ?_
    refine mf_iconst (v := 1) dX1_addPulls_13 rfl ?_
    refine mf_iand dX1_addPulls_14 ?_
    refine mf_iconst (v := 1) dX1_addPulls_15 rfl ?_
    refine mf_icmp_ne (tgt := 54) dX1_addPulls_16 (by decide) ?_ ?_
    · refine mf_iinc 4 (x1 + 1) [(4, .int (x1 + 1)), (0, .ref 141), (1, .int a1), (2, .int a2), (3, .int a3)] dX1_addPulls_54 rfl rfl (Nat.le_of_ble_eq_true rfl) rfl ?_
      refine mf_goto (tgt := 3) dX1_addPulls_57 (by decide) ?_
      refine mf_sub [1, 2, 3, 4, 0] rfl ?_
      exact h3 _
    · refine mf_aload_n 0 dX1_addPulls_19 rfl ?_
      refine mf_geti 1 1 dX1_addPulls_20 fl_X1_15 (by decide) (by decide) rfl (co_o (w_co hq)) (fun v2 => ?_)
      refine mf_aload_n 0 dX1_addPulls_23 rfl ?_
      refine mf_getr 1 0 dX1_addPulls_24 fl_X1_9 (by decide) (by decide) rfl (co_o (w_co hq)) (co_r0 (w_co hq)) (by decide) ?_
      refine mf_alen (t := 0) (by decide) dX1_addPulls_27 (co_a0 (w_co hq)) ?_
      refine mf_icmp_ge (tgt := 54) dX1_addPulls_28 (by decide) ?_ ?_
      · refine mf_iinc 4 (x1 + 1) [(4, .int (x1 + 1)), (0, .ref 141), (1, .int a1), (2, .int a2), (3, .int a3)] dX1_addPulls_54 rfl rfl (Nat.le_of_ble_eq_true rfl) rfl ?_
        refine mf_goto (tgt := 3) dX1_addPulls_57 (by decide) ?_
        refine mf_sub [1, 2, 3, 4, 0] rfl ?_
        exact h3 _
      · refine mf_aload_n 0 dX1_addPulls_31 rfl ?_
        refine mf_getr 1 0 dX1_addPulls_32 fl_X1_9 (by decide) (by decide) rfl (co_o (w_co hq)) (co_r0 (w_co hq)) (by decide) ?_
        refine mf_aload_n 0 dX1_addPulls_35 rfl ?_
        refine mf_geti 1 1 dX1_addPulls_36 fl_X1_15 (by decide) (by decide) rfl (co_o (w_co hq)) (fun v3 => ?_)
        refine mf_iload_n 3 dX1_addPulls_39 rfl ?_
        refine mf_iload 4 dX1_addPulls_40 rfl ?_
        refine mf_iadd dX1_addPulls_42 ?_
        refine mf_iast dX1_addPulls_43 (co_a0 (w_co hq)) ?_
        refine mf_aload_n 0 dX1_addPulls_44 rfl ?_
        refine mf_dup dX1_addPulls_45 rfl ?_
        refine mf_geti 1 1 dX1_addPulls_46 fl_X1_15 (by decide) (by decide) rfl (co_o (w_co hq)) (fun v4 => ?_)
        refine mf_iconst (v := 1) dX1_addPulls_49 rfl ?_
        refine mf_iadd dX1_addPulls_50 ?_
        refine mf_puti 1 1 dX1_addPulls_51 fl_X1_15 (by decide) (by decide) rfl rfl (co_o (w_co hq)) ?_
        refine mf_iinc 4 (x1 + 1) [(4, .int (x1 + 1)), (0, .ref 141), (1, .int a1), (2, .int a2), (3, .int a3)] dX1_addPulls_54 rfl rfl (Nat.le_of_ble_eq_true rfl) rfl ?_
        refine mf_goto (tgt := 3) dX1_addPulls_57 (by decide) ?_
        refine mf_sub [1, 2, 3, 4, 0] rfl ?_
        exact h3 _
set_option maxRecDepth 100000 in
set_option maxHeartbeats 4000000 in
theorem aX1_workOutPulls (d : Nat) (q : m_S) (hq : isW q) (a1 : Int32) : AC rI yX1_workOutPulls cX1_workOutPulls 8 (some .int) (d + 3) [.ref 141, .ref 4, .ref 47, .int a1] q (fX1_workOutPulls a1) := by
  refine ac_of (by decide +kernel) (Nat.le_of_ble_eq_true rfl) ?_
  unfold fX1_workOutPulls
  show MF rI (yX1_workOutPulls.cls, cX1_workOutPulls, 8, (some .int), yX1_workOutPulls.name, d + 3, 0, 0) 0 [(0, .ref 141), (1, .ref 4), (2, .ref 47), (3, .int a1)] [] q _
  refine mf_aload_n 1 dX1_workOutPulls_0 rfl ?_
  refine mf_iconst (v := 4) dX1_workOutPulls_1 rfl ?_
  refine mf_iload_n 3 dX1_workOutPulls_2 rfl ?_
  refine mf_cVi (rest := []) [.int 4, .int a1] (aX5_has (d + 1) q hq 4 4 a1 pl4) mY_X5_has dX1_workOutPulls_3 ml_X1_31 (pl_o (w_pl hq pl4)) rfl rfl (Nat.le_of_ble_eq_true rfl) rfl (fun v1 => ?_)
  refine mf_if_eq (tgt := 41) dX1_workOutPulls_6 (by decide) ?_ ?_
  · refine mf_iconst (v := -1) dX1_workOutPulls_41 rfl ?_
    exact mf_ireturn dX1_workOutPulls_42 rfl rfl ⟨rfl, rfl⟩
  · refine mf_aload_n 2 dX1_workOutPulls_9 rfl ?_
    refine mf_getr 8 8 dX1_workOutPulls_10 fl_X1_37 (by decide) (by decide) rfl (sa_o (w_st hq st47)) (sa_r8 (w_st hq st47)) (by decide) ?_
    refine mf_iload_n 3 dX1_workOutPulls_13 rfl ?_
    refine mf_iald dX1_workOutPulls_14 (sa_a8 (w_st hq st47)) (fun v2 => ?_)
    refine mf_if_ne (tgt := 41) dX1_workOutPulls_15 (by decide) ?_ ?_
    · refine mf_iconst (v := -1) dX1_workOutPulls_41 rfl ?_
      exact mf_ireturn dX1_workOutPulls_42 rfl rfl ⟨rfl, rfl⟩
    · refine mf_aload_n 1 dX1_workOutPulls_18 rfl ?_
      refine mf_getr 5 11 dX1_workOutPulls_19 fl_X1_42 (by decide) (by decide) rfl (pl_o (w_pl hq pl4)) (pl_r11 (w_pl hq pl4)) (by decide) ?_
      refine mf_iload_n 3 dX1_workOutPulls_22 rfl ?_
      refine mf_iald dX1_workOutPulls_23 (pl_a11 (w_pl hq pl4)) (fun v3 => ?_)
      refine mf_if_eq (tgt := 41) dX1_workOutPulls_24 (by decide) ?_ ?_
      · refine mf_iconst (v := -1) dX1_workOutPulls_41 rfl ?_
        exact mf_ireturn dX1_workOutPulls_42 rfl rfl ⟨rfl, rfl⟩
      · refine mf_aload_n 1 dX1_workOutPulls_27 rfl ?_
        refine mf_getr 5 13 dX1_workOutPulls_28 fl_X1_45 (by decide) (by decide) rfl (pl_o (w_pl hq pl4)) (pl_r13 (w_pl hq pl4)) (by decide) ?_
        refine mf_iload_n 3 dX1_workOutPulls_31 rfl ?_
        refine mf_iald dX1_workOutPulls_32 (pl_a13 (w_pl hq pl4)) (fun v4 => ?_)
        refine mf_aload_n 2 dX1_workOutPulls_33 rfl ?_
        refine mf_cVi (rest := [.int v4]) [] (aX8_showing (d + 0) q hq 47 st47) mY_X8_showing dX1_workOutPulls_34 ml_X1_48 (sa_o (w_st hq st47)) rfl rfl (Nat.le_of_ble_eq_true rfl) rfl (fun v5 => ?_)
        refine mf_iand dX1_workOutPulls_37 ?_
        refine mf_if_eq (tgt := 43) dX1_workOutPulls_38 (by decide) ?_ ?_
        · refine mf_aload_n 2 dX1_workOutPulls_43 rfl ?_
          refine mf_iload_n 3 dX1_workOutPulls_44 rfl ?_
          refine mf_cVi (rest := []) [.int a1] (aX8_pointsAgainst (d + 1) q hq 47 a1 st47) mY_X8_pointsAgainst dX1_workOutPulls_45 ml_X1_52 (sa_o (w_st hq st47)) rfl rfl (Nat.le_of_ble_eq_true rfl) rfl (fun v6 => ?_)
          refine mf_istore [(4, .int v6), (0, .ref 141), (1, .ref 4), (2, .ref 47), (3, .int a1)] dX1_workOutPulls_48 (Nat.le_of_ble_eq_true rfl) rfl ?_
          refine mf_aload_n 3 dX1_workOutPulls_50 rfl ?_
          refine mf_iload_n 4 dX1_workOutPulls_51 rfl ?_
          refine mf_cVi (rest := []) [.int a1] (aX8_barring (d + 0) q hq 47 a1 st47) mY_X8_barring dX1_workOutPulls_52 ml_X1_56 (sa_o (w_st hq st47)) rfl rfl (Nat.le_of_ble_eq_true rfl) rfl (fun v7 => ?_)
          refine mf_istore [(5, .int v7), (4, .int v6), (0, .ref 141), (1, .ref 4), (2, .ref 47), (3, .int a1)] dX1_workOutPulls_55 (Nat.le_of_ble_eq_true rfl) rfl ?_
          refine mf_iconst (v := 0) dX1_workOutPulls_57 rfl ?_
          refine mf_istore [(6, .int 0), (5, .int v7), (4, .int v6), (0, .ref 141), (1, .ref 4), (2, .ref 47), (3, .int a1)] dX1_workOutPulls_58 (Nat.le_of_ble_eq_true rfl) rfl ?_
          refine mf_iconst (v := 0) dX1_workOutPulls_60 rfl ?_
          refine mf_istore [(7, .int 0), (6, .int 0), (5, .int v7), (4, .int v6), (0, .ref 141), (1, .ref 4), (2, .ref 47), (3, .int a1)] dX1_workOutPulls_61 (Nat.le_of_ble_eq_true rfl) rfl ?_
          refine mf_sub [4, 5, 6, 3, 2, 1, 0] rfl ?_
          refine mf_lz3 (lv := fun x8 x9 x10 => [(0, .ref 141), (1, .ref 4), (2, .ref 47), (4, .int v6), (5, .int x8), (6, .int x9), (7, .int x10)]) (fun L63 h63 x8 x9 x10 => ?_) _ _ _ _
          show MF rI (yX1_workOutPulls.cls, cX1_workOutPulls, 8, (some .int), yX1_workOutPulls.name, d + 3, 0, 0) 63 [(0, .ref 141), (1, .ref 4), (2, .ref 47), (4, .int v6), (5, .int x8), (6, .int x9), (7, .int x10)] [] q _
          refine mf_iload 6 dX1_workOutPulls_63 rfl ?_
          refine mf_aload_n 1 dX1_workOutPulls_65 rfl ?_
          refine mf_getr 5 0 dX1_workOutPulls_66 fl_X1_59 (by decide) (by decide) rfl (pl_o (w_pl hq pl4)) (pl_r0 (w_pl hq pl4)) (by decide) ?_
          refine mf_iconst (v := 1) dX1_workOutPulls_69 rfl ?_
          refine mf_iald dX1_workOutPulls_70 (pl_a0 (w_pl hq pl4)) (fun v11 => ?_)
          refine mf_icmp_ge (tgt := 130) dX1_workOutPulls_71 (by decide) ?_ ?_
          · refine mf_iload 4 dX1_workOutPulls_130 rfl ?_
            refine mf_aload_n 2 dX1_workOutPulls_132 rfl ?_
            refine mf_cVi (rest := [.int x8]) [] (aX8_notFree (d + 1) q hq 47 st47) mY_X8_notFree dX1_workOutPulls_133 ml_X1_69 (sa_o (w_st hq st47)) rfl rfl (Nat.le_of_ble_eq_true rfl) rfl (fun v12 => ?_)
            refine mf_iand dX1_workOutPulls_136 ?_
            refine mf_istore [(5, .int (x8 &&& v12)), (0, .ref 141), (1, .ref 4), (2, .ref 47), (4, .int v6), (6, .int x9), (7, .int x10)] dX1_workOutPulls_137 (Nat.le_of_ble_eq_true rfl) rfl ?_
            refine mf_iload 5 dX1_workOutPulls_139 rfl ?_
            refine mf_if_ne (tgt := 156) dX1_workOutPulls_141 (by decide) ?_ ?_
            · refine mf_iconst (v := -1) dX1_workOutPulls_156 rfl ?_
              exact mf_ireturn dX1_workOutPulls_157 rfl rfl ⟨rfl, rfl⟩
            · refine mf_iload 0 dX1_workOutPulls_144 rfl ?_
              refine mf_aload_n 3 dX1_workOutPulls_146 rfl ?_
              refine mf_cVi (rest := [.int (x8 &&& v12)]) [] (aX8_freeByPuttingBack (d + 0) q hq 47 st47) mY_X8_freeByPuttingBack dX1_workOutPulls_147 ml_X1_72 (sa_o (w_st hq st47)) rfl rfl (Nat.le_of_ble_eq_true rfl) rfl (fun v13 => ?_)
              refine mf_iconst (v := -1) dX1_workOutPulls_150 rfl ?_
              refine mf_ixor dX1_workOutPulls_151 ?_
              refine mf_iand dX1_workOutPulls_152 ?_
              refine mf_if_eq (tgt := 158) dX1_workOutPulls_153 (by decide) ?_ ?_
              · refine mf_aload_n 1 dX1_workOutPulls_158 rfl ?_
                refine mf_iconst (v := 0) dX1_workOutPulls_159 rfl ?_
                refine mf_puti 1 1 dX1_workOutPulls_160 fl_X1_15 (by decide) (by decide) rfl rfl (co_o (w_co hq)) ?_
                refine mf_aload_n 1 dX1_workOutPulls_163 rfl ?_
                refine mf_iload 0 dX1_workOutPulls_164 rfl ?_
                refine mf_aload_n 2 dX1_workOutPulls_166 rfl ?_
                refine mf_getr 5 0 dX1_workOutPulls_167 fl_X1_59 (by decide) (by decide) rfl (pl_o (w_pl hq pl4)) (pl_r0 (w_pl hq pl4)) (by decide) ?_
                refine mf_iconst (v := 4) dX1_workOutPulls_170 rfl ?_
                refine mf_iald dX1_workOutPulls_171 (pl_a0 (w_pl hq pl4)) (fun v14 => ?_)
                refine mf_iconst (v := 0) dX1_workOutPulls_172 rfl ?_
                refine mf_cVv (rest := []) [.int (x8 &&& v12), .int v14, .int 0] (aX1_addPulls (d + 1) q hq (x8 &&& v12) v14 0) mY_X1_addPulls dX1_workOutPulls_173 ml_X1_75 (co_o (w_co hq)) rfl rfl (Nat.le_of_ble_eq_true rfl) rfl (fun _ => ?_)
                refine mf_aload_n 1 dX1_workOutPulls_176 rfl ?_
                refine mf_iload 4 dX1_workOutPulls_177 rfl ?_
                refine mf_aload_n 2 dX1_workOutPulls_179 rfl ?_
                refine mf_getr 5 0 dX1_workOutPulls_180 fl_X1_59 (by decide) (by decide) rfl (pl_o (w_pl hq pl4)) (pl_r0 (w_pl hq pl4)) (by decide) ?_
                refine mf_iconst (v := 1) dX1_workOutPulls_183 rfl ?_
                refine mf_iald dX1_workOutPulls_184 (pl_a0 (w_pl hq pl4)) (fun v15 => ?_)
                refine mf_bipush (v := 16) dX1_workOutPulls_185 (by decide) ?_
                refine mf_cVv (rest := []) [.int v6, .int v15, .int 16] (aX1_addPulls (d + 1) q hq v6 v15 16) mY_X1_addPulls dX1_workOutPulls_187 ml_X1_75 (co_o (w_co hq)) rfl rfl (Nat.le_of_ble_eq_true rfl) rfl (fun _ => ?_)
                refine mf_aload_n 1 dX1_workOutPulls_190 rfl ?_
                refine mf_geti 1 1 dX1_workOutPulls_191 fl_X1_15 (by decide) (by decide) rfl (co_o (w_co hq)) (fun v16 => ?_)
                exact mf_ireturn dX1_workOutPulls_194 rfl rfl ⟨rfl, rfl⟩
              · refine mf_iconst (v := -1) dX1_workOutPulls_156 rfl ?_
                exact mf_ireturn dX1_workOutPulls_157 rfl rfl ⟨rfl, rfl⟩
          · refine mf_iload 3 dX1_workOutPulls_74 rfl ?_
            refine mf_iload 6 dX1_workOutPulls_76 rfl ?_
            refine mf_ishr dX1_workOutPulls_78 ?_
            refine mf_iconst (v := 1) dX1_workOutPulls_79 rfl ?_
            refine mf_iand dX1_workOutPulls_80 ?_
            refine mf_iconst (v := 1) dX1_workOutPulls_81 rfl ?_
            refine mf_icmp_ne (tgt := 124) dX1_workOutPulls_82 (by decide) ?_ ?_
            · refine mf_iinc 6 (x10 + 1) [(7, .int (x10 + 1)), (0, .ref 141), (1, .ref 4), (2, .ref 47), (4, .int v6), (5, .int x8), (6, .int x9)] dX1_workOutPulls_124 rfl rfl (Nat.le_of_ble_eq_true rfl) rfl ?_
              refine mf_goto (tgt := 63) dX1_workOutPulls_127 (by decide) ?_
              refine mf_sub [1, 2, 3, 4, 5, 6, 0] rfl ?_
              exact h63 _ _ _
            · refine mf_iload 4 dX1_workOutPulls_85 rfl ?_
              refine mf_aload_n 1 dX1_workOutPulls_87 rfl ?_
              refine mf_iload 6 dX1_workOutPulls_88 rfl ?_
              refine mf_iconst (v := 0) dX1_workOutPulls_90 rfl ?_
              refine mf_cVi (rest := [.int x8]) [.int x10, .int 0] (aX5_routesNeeding (d + 1) q hq 4 x10 0 pl4) mY_X5_routesNeeding dX1_workOutPulls_91 ml_X1_62 (pl_o (w_pl hq pl4)) rfl rfl (Nat.le_of_ble_eq_true rfl) rfl (fun v17 => ?_)
              refine mf_aload_n 1 dX1_workOutPulls_94 rfl ?_
              refine mf_iload 6 dX1_workOutPulls_95 rfl ?_
              refine mf_iconst (v := 1) dX1_workOutPulls_97 rfl ?_
              refine mf_cVi (rest := [.int v17, .int x8]) [.int x10, .int 1] (aX5_routesNeeding (d + 1) q hq 4 x10 1 pl4) mY_X5_routesNeeding dX1_workOutPulls_98 ml_X1_62 (pl_o (w_pl hq pl4)) rfl rfl (Nat.le_of_ble_eq_true rfl) rfl (fun v18 => ?_)
              refine mf_ior dX1_workOutPulls_101 ?_
              refine mf_ior dX1_workOutPulls_102 ?_
              refine mf_istore [(5, .int (x8 ||| (v17 ||| v18))), (0, .ref 141), (1, .ref 4), (2, .ref 47), (4, .int v6), (6, .int x9), (7, .int x10)] dX1_workOutPulls_103 (Nat.le_of_ble_eq_true rfl) rfl ?_
              refine mf_iload 5 dX1_workOutPulls_105 rfl ?_
              refine mf_aload_n 3 dX1_workOutPulls_107 rfl ?_
              refine mf_cVi (rest := [.int x9]) [] (aX8_showing (d + 0) q hq 47 st47) mY_X8_showing dX1_workOutPulls_108 ml_X1_48 (sa_o (w_st hq st47)) rfl rfl (Nat.le_of_ble_eq_true rfl) rfl (fun v19 => ?_)
              refine mf_aload_n 2 dX1_workOutPulls_111 rfl ?_
              refine mf_getr 5 3 dX1_workOutPulls_112 fl_X1_66 (by decide) (by decide) rfl (pl_o (w_pl hq pl4)) (pl_r3 (w_pl hq pl4)) (by decide) ?_
              refine mf_iload 6 dX1_workOutPulls_115 rfl ?_
              refine mf_iald dX1_workOutPulls_117 (pl_a3 (w_pl hq pl4)) (fun v20 => ?_)
              refine mf_ishr dX1_workOutPulls_118 ?_
              refine mf_iconst (v := 1) dX1_workOutPulls_119 rfl ?_
              refine mf_iand dX1_workOutPulls_120 ?_
              refine mf_ior dX1_workOutPulls_121 ?_
              refine mf_istore [(6, .int (x9 ||| ((v19 >>> (v20 &&& 31)) &&& 1))), (5, .int (x8 ||| (v17 ||| v18))), (0, .ref 141), (1, .ref 4), (2, .ref 47), (4, .int v6), (7, .int x10)] dX1_workOutPulls_122 (Nat.le_of_ble_eq_true rfl) rfl ?_
              refine mf_iinc 6 (x10 + 1) [(7, .int (x10 + 1)), (6, .int (x9 ||| ((v19 >>> (v20 &&& 31)) &&& 1))), (5, .int (x8 ||| (v17 ||| v18))), (0, .ref 141), (1, .ref 4), (2, .ref 47), (4, .int v6)] dX1_workOutPulls_124 rfl rfl (Nat.le_of_ble_eq_true rfl) rfl ?_
              refine mf_goto (tgt := 63) dX1_workOutPulls_127 (by decide) ?_
              refine mf_sub [3, 4, 5, 6, 2, 1, 0] rfl ?_
              exact h63 _ _ _
        · refine mf_iconst (v := -1) dX1_workOutPulls_41 rfl ?_
          exact mf_ireturn dX1_workOutPulls_42 rfl rfl ⟨rfl, rfl⟩
set_option maxRecDepth 100000 in
set_option maxHeartbeats 4000000 in
theorem aX1_pullAt (d : Nat) (q : m_S) (hq : isW q) (a1 : Int32) : AC rI yX1_pullAt cX1_pullAt 2 (some .int) (d + 1) [.ref 141, .int a1] q (fX1_pullAt a1) := by
  refine ac_of (by decide +kernel) (Nat.le_of_ble_eq_true rfl) ?_
  unfold fX1_pullAt
  show MF rI (yX1_pullAt.cls, cX1_pullAt, 2, (some .int), yX1_pullAt.name, d + 1, 0, 0) 0 [(0, .ref 141), (1, .int a1)] [] q _
  refine mf_iload_n 1 dX1_pullAt_0 rfl ?_
  refine mf_if_lt (tgt := 21) dX1_pullAt_1 (by decide) ?_ ?_
  · refine mf_iconst (v := -1) dX1_pullAt_21 rfl ?_
    exact mf_ireturn dX1_pullAt_22 rfl rfl ⟨rfl, rfl⟩
  · refine mf_iload_n 1 dX1_pullAt_4 rfl ?_
    refine mf_aload_n 0 dX1_pullAt_5 rfl ?_
    refine mf_geti 1 1 dX1_pullAt_6 fl_X1_15 (by decide) (by decide) rfl (co_o (w_co hq)) (fun v1 => ?_)
    refine mf_icmp_ge (tgt := 21) dX1_pullAt_9 (by decide) ?_ ?_
    · refine mf_iconst (v := -1) dX1_pullAt_21 rfl ?_
      exact mf_ireturn dX1_pullAt_22 rfl rfl ⟨rfl, rfl⟩
    · refine mf_aload_n 0 dX1_pullAt_12 rfl ?_
      refine mf_getr 1 0 dX1_pullAt_13 fl_X1_9 (by decide) (by decide) rfl (co_o (w_co hq)) (co_r0 (w_co hq)) (by decide) ?_
      refine mf_iload_n 1 dX1_pullAt_16 rfl ?_
      refine mf_iald dX1_pullAt_17 (co_a0 (w_co hq)) (fun v2 => ?_)
      refine mf_goto (tgt := 22) dX1_pullAt_18 (by decide) ?_
      exact mf_ireturn dX1_pullAt_22 rfl rfl ⟨rfl, rfl⟩
set_option maxRecDepth 100000 in
set_option maxHeartbeats 4000000 in
theorem aX1_costOf (d : Nat) (q : m_S) (hq : isW q) (a1 : Int32) (a2 : Int32) : AC rI yX1_costOf cX1_costOf 4 (some .int) (d + 3) [.ref 141, .ref 4, .int a1, .int a2] q (fX1_costOf a1 a2) := by
  refine ac_of (by decide +kernel) (Nat.le_of_ble_eq_true rfl) ?_
  unfold fX1_costOf
  show MF rI (yX1_costOf.cls, cX1_costOf, 4, (some .int), yX1_costOf.name, d + 3, 0, 0) 0 [(0, .ref 141), (1, .ref 4), (2, .int a1), (3, .int a2)] [] q _
  refine mf_aload_n 1 dX1_costOf_0 rfl ?_
  refine mf_getr 5 13 dX1_costOf_1 fl_X1_45 (by decide) (by decide) rfl (pl_o (w_pl hq pl4)) (pl_r13 (w_pl hq pl4)) (by decide) ?_
  refine mf_iload_n 2 dX1_costOf_4 rfl ?_
  refine mf_iald dX1_costOf_5 (pl_a13 (w_pl hq pl4)) (fun v1 => ?_)
  refine mf_iload_n 3 dX1_costOf_6 rfl ?_
  refine mf_ishr dX1_costOf_7 ?_
  refine mf_iconst (v := 1) dX1_costOf_8 rfl ?_
  refine mf_iand dX1_costOf_9 ?_
  refine mf_iconst (v := 1) dX1_costOf_10 rfl ?_
  refine mf_icmp_ne (tgt := 16) dX1_costOf_11 (by decide) ?_ ?_
  · refine mf_iconst (v := 1) dX1_costOf_16 rfl ?_
    refine mf_aload_n 0 dX1_costOf_17 rfl ?_
    refine mf_getr 1 4 dX1_costOf_18 fl_X1_25 (by decide) (by decide) rfl (co_o (w_co hq)) (co_r4 (w_co hq)) (by decide) ?_
    refine mf_aload_n 1 dX1_costOf_21 rfl ?_
    refine mf_iload_n 2 dX1_costOf_22 rfl ?_
    refine mf_cVi (rest := [.ref 144, .int 1]) [.int a1] (aX5_endOf (d + 0) q hq 4 a1 pl4) mY_X5_endOf dX1_costOf_23 ml_X1_93 (pl_o (w_pl hq pl4)) rfl rfl (Nat.le_of_ble_eq_true rfl) rfl (fun v2 => ?_)
    refine mf_iald dX1_costOf_26 (co_a4 (w_co hq)) (fun v3 => ?_)
    refine mf_iadd dX1_costOf_27 ?_
    exact mf_ireturn dX1_costOf_28 rfl rfl ⟨rfl, rfl⟩
  · refine mf_iconst (v := 1) dX1_costOf_14 rfl ?_
    exact mf_ireturn dX1_costOf_15 rfl rfl ⟨rfl, rfl⟩
set_option maxRecDepth 100000 in
set_option maxHeartbeats 4000000 in
theorem aX1_measure (d : Nat) (q : m_S) (hq : isW q) (a1 : Int32) (a2 : Int32) : AC rU yX1_measure cX1_measure 8 none (d + 4) [.ref 141, .ref 4, .int a1, .int a2] q (fX1_measure a1 a2) := by
  refine ac_of (by decide +kernel) (Nat.le_of_ble_eq_true rfl) ?_
  unfold fX1_measure
  show MF rU (yX1_measure.cls, cX1_measure, 8, none, yX1_measure.name, d + 4, 0, 0) 0 [(0, .ref 141), (1, .ref 4), (2, .int a1), (3, .int a2)] [] q _
  refine mf_aload_n 0 dX1_measure_0 rfl ?_
  refine mf_getr 1 4 dX1_measure_1 fl_X1_25 (by decide) (by decide) rfl (co_o (w_co hq)) (co_r4 (w_co hq)) (by decide) ?_
  refine mf_bipush (v := 100) dX1_measure_4 (by decide) ?_
  refine mf_cSv (rest := []) [.ref 144, .int 100] (aJ7_fill_53178 (d + 2) q 144 12 (co_a4 (w_co hq)) (by decide) 100) mY_J7_fill_53178 dX1_measure_6 ml_X1_96 rfl rfl (Nat.le_of_ble_eq_true rfl) rfl (fun _ => ?_)
  refine mf_iconst (v := 0) dX1_measure_9 rfl ?_
  refine mf_istore [(4, .int 0), (0, .ref 141), (1, .ref 4), (2, .int a1), (3, .int a2)] dX1_measure_10 (Nat.le_of_ble_eq_true rfl) rfl ?_
  refine mf_sub [1, 2, 3, 4, 0] rfl ?_
  refine mf_lz1 (lv := fun x1 => [(0, .ref 141), (1, .ref 4), (2, .int a1), (3, .int a2), (4, .int x1)]) (fun L12 h12 x1 => ?_) _ _
  show MF rU (yX1_measure.cls, cX1_measure, 8, none, yX1_measure.name, d + 4, 0, 0) 12 [(0, .ref 141), (1, .ref 4), (2, .int a1), (3, .int a2), (4, .int x1)] [] q _
  refine mf_iload 4 dX1_measure_12 rfl ?_
  refine mf_aload_n 1 dX1_measure_14 rfl ?_
  refine mf_getr 5 0 dX1_measure_15 fl_X1_59 (by decide) (by decide) rfl (pl_o (w_pl hq pl4)) (pl_r0 (w_pl hq pl4)) (by decide) ?_
  refine mf_iconst (v := 4) dX1_measure_18 rfl ?_
  refine mf_iald dX1_measure_19 (pl_a0 (w_pl hq pl4)) (fun v2 => ?_)
  refine mf_icmp_ge (tgt := 113) dX1_measure_20 (by decide) ?_ ?_
  · exact mf_return dX1_measure_113 rfl ⟨rfl, rfl⟩
  · refine mf_iconst (v := 0) dX1_measure_23 rfl ?_
    refine mf_istore [(5, .int 0), (0, .ref 141), (1, .ref 4), (2, .int a1), (3, .int a2), (4, .int x1)] dX1_measure_24 (Nat.le_of_ble_eq_true rfl) rfl ?_
    refine mf_sub [1, 2, 3, 4, 5, 0] rfl ?_
    refine mf_lz1 (lv := fun x3 => [(0, .ref 141), (1, .ref 4), (2, .int a1), (3, .int a2), (4, .int x1), (5, .int x3)]) (fun L26 h26 x3 => ?_) _ _
    show MF rU (yX1_measure.cls, cX1_measure, 8, none, yX1_measure.name, d + 4, 0, 0) 26 [(0, .ref 141), (1, .ref 4), (2, .int a1), (3, .int a2), (4, .int x1), (5, .int x3)] [] q _
    refine mf_iload 5 dX1_measure_26 rfl ?_
    refine mf_aload_n 1 dX1_measure_28 rfl ?_
    refine mf_getr 5 0 dX1_measure_29 fl_X1_59 (by decide) (by decide) rfl (pl_o (w_pl hq pl4)) (pl_r0 (w_pl hq pl4)) (by decide) ?_
    refine mf_iconst (v := 4) dX1_measure_32 rfl ?_
    refine mf_iald dX1_measure_33 (pl_a0 (w_pl hq pl4)) (fun v4 => ?_)
    refine mf_icmp_ge (tgt := 107) dX1_measure_34 (by decide) ?_ ?_
    · refine mf_iinc 4 (x1 + 1) [(4, .int (x1 + 1)), (0, .ref 141), (1, .ref 4), (2, .int a1), (3, .int a2), (5, .int x3)] dX1_measure_107 rfl rfl (Nat.le_of_ble_eq_true rfl) rfl ?_
      refine mf_goto (tgt := 12) dX1_measure_110 (by decide) ?_
      refine mf_sub [1, 2, 3, 4, 0] rfl ?_
      exact h12 _
    · refine mf_aload_n 1 dX1_measure_37 rfl ?_
      refine mf_getr 5 10 dX1_measure_38 fl_X1_102 (by decide) (by decide) rfl (pl_o (w_pl hq pl4)) (pl_r10 (w_pl hq pl4)) (by decide) ?_
      refine mf_iload 5 dX1_measure_41 rfl ?_
      refine mf_iald dX1_measure_43 (pl_a10 (w_pl hq pl4)) (fun v5 => ?_)
      refine mf_istore [(6, .int v5), (0, .ref 141), (1, .ref 4), (2, .int a1), (3, .int a2), (4, .int x1), (5, .int x3)] dX1_measure_44 (Nat.le_of_ble_eq_true rfl) rfl ?_
      refine mf_aload_n 2 dX1_measure_46 rfl ?_
      refine mf_getr 5 9 dX1_measure_47 fl_X1_105 (by decide) (by decide) rfl (pl_o (w_pl hq pl4)) (pl_r9 (w_pl hq pl4)) (by decide) ?_
      refine mf_iload 0 dX1_measure_50 rfl ?_
      refine mf_iald dX1_measure_52 (pl_a9 (w_pl hq pl4)) (fun v6 => ?_)
      refine mf_iload_n 3 dX1_measure_53 rfl ?_
      refine mf_icmp_ne (tgt := 101) dX1_measure_54 (by decide) ?_ ?_
      · refine mf_iinc 6 (x3 + 1) [(5, .int (x3 + 1)), (6, .int v5), (0, .ref 141), (1, .ref 4), (2, .int a1), (3, .int a2), (4, .int x1)] dX1_measure_101 rfl rfl (Nat.le_of_ble_eq_true rfl) rfl ?_
        refine mf_goto (tgt := 26) dX1_measure_104 (by decide) ?_
        refine mf_sub [2, 3, 4, 5, 6, 0] rfl ?_
        exact h26 _
      · refine mf_aload_n 2 dX1_measure_57 rfl ?_
        refine mf_getr 5 11 dX1_measure_58 fl_X1_42 (by decide) (by decide) rfl (pl_o (w_pl hq pl4)) (pl_r11 (w_pl hq pl4)) (by decide) ?_
        refine mf_iload 6 dX1_measure_61 rfl ?_
        refine mf_iald dX1_measure_63 (pl_a11 (w_pl hq pl4)) (fun v7 => ?_)
        refine mf_if_le (tgt := 101) dX1_measure_64 (by decide) ?_ ?_
        · refine mf_iinc 6 (x3 + 1) [(5, .int (x3 + 1)), (6, .int v5), (0, .ref 141), (1, .ref 4), (2, .int a1), (3, .int a2), (4, .int x1)] dX1_measure_101 rfl rfl (Nat.le_of_ble_eq_true rfl) rfl ?_
          refine mf_goto (tgt := 26) dX1_measure_104 (by decide) ?_
          refine mf_sub [2, 3, 4, 5, 6, 0] rfl ?_
          exact h26 _
        · refine mf_aload_n 2 dX1_measure_67 rfl ?_
          refine mf_getr 5 8 dX1_measure_68 fl_X1_108 (by decide) (by decide) rfl (pl_o (w_pl hq pl4)) (pl_r8 (w_pl hq pl4)) (by decide) ?_
          refine mf_iload 0 dX1_measure_71 rfl ?_
          refine mf_iald dX1_measure_73 (pl_a8 (w_pl hq pl4)) (fun v8 => ?_)
          refine mf_istore [(7, .int v8), (6, .int v5), (0, .ref 141), (1, .ref 4), (2, .int a1), (3, .int a2), (4, .int x1), (5, .int x3)] dX1_measure_74 (Nat.le_of_ble_eq_true rfl) rfl ?_
          refine mf_aload_n 2 dX1_measure_76 rfl ?_
          refine mf_getr 1 4 dX1_measure_77 fl_X1_25 (by decide) (by decide) rfl (co_o (w_co hq)) (co_r4 (w_co hq)) (by decide) ?_
          refine mf_iload 0 dX1_measure_80 rfl ?_
          refine mf_aload_n 2 dX1_measure_82 rfl ?_
          refine mf_getr 1 4 dX1_measure_83 fl_X1_25 (by decide) (by decide) rfl (co_o (w_co hq)) (co_r4 (w_co hq)) (by decide) ?_
          refine mf_iload 0 dX1_measure_86 rfl ?_
          refine mf_iald dX1_measure_88 (co_a4 (w_co hq)) (fun v9 => ?_)
          refine mf_aload_n 2 dX1_measure_89 rfl ?_
          refine mf_aload_n 3 dX1_measure_90 rfl ?_
          refine mf_iload 7 dX1_measure_91 rfl ?_
          refine mf_iload_n 5 dX1_measure_93 rfl ?_
          refine mf_cVi (rest := [.int v9, .int v8, .ref 144]) [.ref 4, .int x3, .int a2] (aX1_costOf (d + 0) q hq x3 a2) mY_X1_costOf dX1_measure_94 ml_X1_111 (co_o (w_co hq)) rfl rfl (Nat.le_of_ble_eq_true rfl) rfl (fun v10 => ?_)
          refine mf_mmin dX1_measure_97 ml_X1_115 (by show 1 ≤ d + _; omega) (Nat.le_of_ble_eq_true rfl) ?_
          refine mf_iast dX1_measure_100 (co_a4 (w_co hq)) ?_
          refine mf_iinc 7 (x3 + 1) [(5, .int (x3 + 1)), (7, .int v8), (6, .int v5), (0, .ref 141), (1, .ref 4), (2, .int a1), (3, .int a2), (4, .int x1)] dX1_measure_101 rfl rfl (Nat.le_of_ble_eq_true rfl) rfl ?_
          refine mf_goto (tgt := 26) dX1_measure_104 (by decide) ?_
          refine mf_sub [3, 4, 5, 6, 7, 0] rfl ?_
          exact h26 _
set_option maxRecDepth 100000 in
set_option maxHeartbeats 4000000 in
theorem aX1_leastStep (d : Nat) (q : m_S) (hq : isW q) (a1 : Int32) (a2 : Int32) (a3 : Int32) : AC rI yX1_leastStep cX1_leastStep 7 (some .int) (d + 4) [.ref 141, .ref 4, .int a1, .int a2, .int a3] q (fX1_leastStep a1 a2 a3) := by
  refine ac_of (by decide +kernel) (Nat.le_of_ble_eq_true rfl) ?_
  unfold fX1_leastStep
  show MF rI (yX1_leastStep.cls, cX1_leastStep, 7, (some .int), yX1_leastStep.name, d + 4, 0, 0) 0 [(0, .ref 141), (1, .ref 4), (2, .int a1), (3, .int a2), (4, .int a3)] [] q _
  refine mf_aload_n 1 dX1_leastStep_0 rfl ?_
  refine mf_iload_n 2 dX1_leastStep_1 rfl ?_
  refine mf_iload_n 3 dX1_leastStep_2 rfl ?_
  refine mf_cVi (rest := []) [.int a1, .int a2] (aX5_signalAt (d + 2) q hq 4 a1 a2 pl4) mY_X5_signalAt dX1_leastStep_3 ml_X1_124 (pl_o (w_pl hq pl4)) rfl rfl (Nat.le_of_ble_eq_true rfl) rfl (fun v1 => ?_)
  refine mf_istore [(5, .int v1), (0, .ref 141), (1, .ref 4), (2, .int a1), (3, .int a2), (4, .int a3)] dX1_leastStep_6 (Nat.le_of_ble_eq_true rfl) rfl ?_
  refine mf_iconst (v := 0) dX1_leastStep_8 rfl ?_
  refine mf_istore [(6, .int 0), (5, .int v1), (0, .ref 141), (1, .ref 4), (2, .int a1), (3, .int a2), (4, .int a3)] dX1_leastStep_9 (Nat.le_of_ble_eq_true rfl) rfl ?_
  refine mf_sub [2, 3, 4, 6, 1, 0] rfl ?_
  refine mf_lz1 (lv := fun x2 => [(0, .ref 141), (1, .ref 4), (2, .int a1), (4, .int a3), (5, .int v1), (6, .int x2)]) (fun L11 h11 x2 => ?_) _ _
  show MF rI (yX1_leastStep.cls, cX1_leastStep, 7, (some .int), yX1_leastStep.name, d + 4, 0, 0) 11 [(0, .ref 141), (1, .ref 4), (2, .int a1), (4, .int a3), (5, .int v1), (6, .int x2)] [] q _
  refine mf_iload 5 dX1_leastStep_11 rfl ?_
  refine mf_aload_n 1 dX1_leastStep_13 rfl ?_
  refine mf_getr 5 0 dX1_leastStep_14 fl_X1_59 (by decide) (by decide) rfl (pl_o (w_pl hq pl4)) (pl_r0 (w_pl hq pl4)) (by decide) ?_
  refine mf_iconst (v := 4) dX1_leastStep_17 rfl ?_
  refine mf_iald dX1_leastStep_18 (pl_a0 (w_pl hq pl4)) (fun v3 => ?_)
  refine mf_icmp_ge (tgt := 71) dX1_leastStep_19 (by decide) ?_ ?_
  · refine mf_iconst (v := -1) dX1_leastStep_71 rfl ?_
    exact mf_ireturn dX1_leastStep_72 rfl rfl ⟨rfl, rfl⟩
  · refine mf_aload_n 1 dX1_leastStep_22 rfl ?_
    refine mf_getr 5 10 dX1_leastStep_23 fl_X1_102 (by decide) (by decide) rfl (pl_o (w_pl hq pl4)) (pl_r10 (w_pl hq pl4)) (by decide) ?_
    refine mf_iload 5 dX1_leastStep_26 rfl ?_
    refine mf_iald dX1_leastStep_28 (pl_a10 (w_pl hq pl4)) (fun v4 => ?_)
    refine mf_iload 4 dX1_leastStep_29 rfl ?_
    refine mf_icmp_ne (tgt := 65) dX1_leastStep_31 (by decide) ?_ ?_
    · refine mf_iinc 5 (x2 + 1) [(6, .int (x2 + 1)), (0, .ref 141), (1, .ref 4), (2, .int a1), (4, .int a3), (5, .int v1)] dX1_leastStep_65 rfl rfl (Nat.le_of_ble_eq_true rfl) rfl ?_
      refine mf_goto (tgt := 11) dX1_leastStep_68 (by decide) ?_
      refine mf_sub [1, 2, 3, 4, 5, 0] rfl ?_
      exact h11 _
    · refine mf_aload_n 1 dX1_leastStep_34 rfl ?_
      refine mf_getr 5 11 dX1_leastStep_35 fl_X1_42 (by decide) (by decide) rfl (pl_o (w_pl hq pl4)) (pl_r11 (w_pl hq pl4)) (by decide) ?_
      refine mf_iload 5 dX1_leastStep_38 rfl ?_
      refine mf_iald dX1_leastStep_40 (pl_a11 (w_pl hq pl4)) (fun v5 => ?_)
      refine mf_if_le (tgt := 65) dX1_leastStep_41 (by decide) ?_ ?_
      · refine mf_iinc 5 (x2 + 1) [(6, .int (x2 + 1)), (0, .ref 141), (1, .ref 4), (2, .int a1), (4, .int a3), (5, .int v1)] dX1_leastStep_65 rfl rfl (Nat.le_of_ble_eq_true rfl) rfl ?_
        refine mf_goto (tgt := 11) dX1_leastStep_68 (by decide) ?_
        refine mf_sub [1, 2, 3, 4, 5, 0] rfl ?_
        exact h11 _
      · refine mf_aload_n 0 dX1_leastStep_44 rfl ?_
        refine mf_aload_n 1 dX1_leastStep_45 rfl ?_
        refine mf_iload 5 dX1_leastStep_46 rfl ?_
        refine mf_iload 3 dX1_leastStep_48 rfl ?_
        refine mf_cVi (rest := []) [.ref 4, .int x2, .int a3] (aX1_costOf (d + 0) q hq x2 a3) mY_X1_costOf dX1_leastStep_50 ml_X1_111 (co_o (w_co hq)) rfl rfl (Nat.le_of_ble_eq_true rfl) rfl (fun v6 => ?_)
        refine mf_aload_n 0 dX1_leastStep_53 rfl ?_
        refine mf_getr 1 4 dX1_leastStep_54 fl_X1_25 (by decide) (by decide) rfl (co_o (w_co hq)) (co_r4 (w_co hq)) (by decide) ?_
        refine mf_iload_n 2 dX1_leastStep_57 rfl ?_
        refine mf_iald dX1_leastStep_58 (co_a4 (w_co hq)) (fun v7 => ?_)
        refine mf_icmp_ne (tgt := 65) dX1_leastStep_59 (by decide) ?_ ?_
        · refine mf_iinc 5 (x2 + 1) [(6, .int (x2 + 1)), (0, .ref 141), (1, .ref 4), (2, .int a1), (4, .int a3), (5, .int v1)] dX1_leastStep_65 rfl rfl (Nat.le_of_ble_eq_true rfl) rfl ?_
          refine mf_goto (tgt := 11) dX1_leastStep_68 (by decide) ?_
          refine mf_sub [1, 2, 3, 4, 5, 0] rfl ?_
          exact h11 _
        · refine mf_iload 5 dX1_leastStep_62 rfl ?_
          exact mf_ireturn dX1_leastStep_64 rfl rfl ⟨rfl, rfl⟩
