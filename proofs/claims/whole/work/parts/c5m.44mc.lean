set_option maxRecDepth 100000 in
set_option maxHeartbeats 4000000 in
theorem aX12_readLock (d : Nat) (q : m_S) (hM : isM q)  : AC rI yX12_readLock cX12_readLock 2 (some .boolean) (d + 4) [.ref 218] q (fX12_readLock ) := by
  refine ac_of (by decide +kernel) (Nat.le_of_ble_eq_true rfl) ?_
  unfold fX12_readLock
  show MF rI (yX12_readLock.cls, cX12_readLock, 2, (some .boolean), yX12_readLock.name, d + 4, 0, 0) 0 [(0, .ref 218)] [] q _
  refine mf_aload_n 0 dX12_readLock_0 rfl ?_
  refine mf_cVv (rest := []) [] (aX12_next (d + 1) q hM) mY_X12_next dX12_readLock_1 ml_X12_208 (mo_o hM) rfl rfl (Nat.le_of_ble_eq_true rfl) rfl (fun _ => ?_)
  refine mf_aload_n 0 dX12_readLock_4 rfl ?_
  refine mf_bipush (v := 67) dX12_readLock_5 (by decide) ?_
  refine mf_aload_n 0 dX12_readLock_7 rfl ?_
  refine mf_getr 12 7 dX12_readLock_8 fl_X12_37 (by decide) (by decide) rfl (mo_o hM) (mo_r7 hM) (by decide) ?_
  refine mf_iconst (v := 4) dX12_readLock_11 rfl ?_
  refine mf_iald dX12_readLock_12 (mo_a7 hM) (fun v1 => ?_)
  refine mf_cVi (rest := []) [.int 67, .int v1] (aX12_takesName (d + 0) q hM 67 v1) mY_X12_takesName dX12_readLock_13 ml_X12_271 (mo_o hM) rfl rfl (Nat.le_of_ble_eq_true rfl) rfl (fun v2 => ?_)
  refine mf_if_ne (tgt := 21) dX12_readLock_16 (by decide) ?_ ?_
  · refine mf_aload_n 0 dX12_readLock_21 rfl ?_
    refine mf_geti 12 18 dX12_readLock_22 fl_X12_215 (by decide) (by decide) rfl (mo_o hM) (fun v3 => ?_)
    refine mf_istore_n [(1, .int v3), (0, .ref 218)] dX12_readLock_25 (Nat.le_of_ble_eq_true rfl) rfl ?_
    refine mf_aload_n 1 dX12_readLock_26 rfl ?_
    refine mf_bipush (v := 67) dX12_readLock_27 (by decide) ?_
    refine mf_aload_n 1 dX12_readLock_29 rfl ?_
    refine mf_getr 12 7 dX12_readLock_30 fl_X12_37 (by decide) (by decide) rfl (mo_o hM) (mo_r7 hM) (by decide) ?_
    refine mf_iconst (v := 4) dX12_readLock_33 rfl ?_
    refine mf_iald dX12_readLock_34 (mo_a7 hM) (fun v4 => ?_)
    refine mf_cVi (rest := []) [.int 67, .int v4] (aX12_looksAt (d + 1) q hM 67 v4) mY_X12_looksAt dX12_readLock_35 ml_X12_230 (mo_o hM) rfl rfl (Nat.le_of_ble_eq_true rfl) rfl (fun v5 => ?_)
    refine mf_if_ne (tgt := 43) dX12_readLock_38 (by decide) ?_ ?_
    · refine mf_aload_n 1 dX12_readLock_43 rfl ?_
      refine mf_geti 12 18 dX12_readLock_44 fl_X12_215 (by decide) (by decide) rfl (mo_o hM) (fun v6 => ?_)
      refine mf_iload_n 0 dX12_readLock_47 rfl ?_
      refine mf_icmp_eq (tgt := 71) dX12_readLock_48 (by decide) ?_ ?_
      · refine mf_aload_n 1 dX12_readLock_71 rfl ?_
        refine mf_iconst (v := 3) dX12_readLock_72 rfl ?_
        refine mf_cVi (rest := []) [.int 3] (aX12_bad (d + 2) q hM 3) mY_X12_bad dX12_readLock_73 ml_X12_205 (mo_o hM) rfl rfl (Nat.le_of_ble_eq_true rfl) rfl (fun v7 => ?_)
        exact mf_zreturn dX12_readLock_76 rfl ⟨rfl, rfl⟩
      · refine mf_aload_n 1 dX12_readLock_51 rfl ?_
        refine mf_getr 12 7 dX12_readLock_52 fl_X12_37 (by decide) (by decide) rfl (mo_o hM) (mo_r7 hM) (by decide) ?_
        refine mf_sipush (v := 206) dX12_readLock_55 (by decide) ?_
        refine mf_iload_n 0 dX12_readLock_58 rfl ?_
        refine mf_iadd dX12_readLock_59 ?_
        refine mf_iald dX12_readLock_60 (mo_a7 hM) (fun v8 => ?_)
        refine mf_aload_n 1 dX12_readLock_61 rfl ?_
        refine mf_geti 12 18 dX12_readLock_62 fl_X12_215 (by decide) (by decide) rfl (mo_o hM) (fun v9 => ?_)
        refine mf_cSi (rest := []) [.int v8, .int v9] (aX12_bitOf (d + 2) q v8 v9) mY_X12_bitOf dX12_readLock_65 ml_X12_280 rfl rfl (Nat.le_of_ble_eq_true rfl) rfl (fun v10 => ?_)
        refine mf_if_eq (tgt := 77) dX12_readLock_68 (by decide) ?_ ?_
        · refine mf_aload_n 1 dX12_readLock_77 rfl ?_
          refine mf_getr 12 7 dX12_readLock_78 fl_X12_37 (by decide) (by decide) rfl (mo_o hM) (mo_r7 hM) (by decide) ?_
          refine mf_sipush (v := 206) dX12_readLock_81 (by decide) ?_
          refine mf_iload_n 0 dX12_readLock_84 rfl ?_
          refine mf_iadd dX12_readLock_85 ?_
          refine mf_dup2 dX12_readLock_86 rfl rfl ?_
          refine mf_iald dX12_readLock_87 (mo_a7 hM) (fun v11 => ?_)
          refine mf_iconst (v := 1) dX12_readLock_88 rfl ?_
          refine mf_aload_n 1 dX12_readLock_89 rfl ?_
          refine mf_geti 12 18 dX12_readLock_90 fl_X12_215 (by decide) (by decide) rfl (mo_o hM) (fun v12 => ?_)
          refine mf_ishl dX12_readLock_93 ?_
          refine mf_ior dX12_readLock_94 ?_
          refine mf_iast dX12_readLock_95 (mo_a7 hM) ?_
          refine mf_aload_n 1 dX12_readLock_96 rfl ?_
          refine mf_getr 12 7 dX12_readLock_97 fl_X12_37 (by decide) (by decide) rfl (mo_o hM) (mo_r7 hM) (by decide) ?_
          refine mf_sipush (v := 206) dX12_readLock_100 (by decide) ?_
          refine mf_aload_n 1 dX12_readLock_103 rfl ?_
          refine mf_geti 12 18 dX12_readLock_104 fl_X12_215 (by decide) (by decide) rfl (mo_o hM) (fun v13 => ?_)
          refine mf_iadd dX12_readLock_107 ?_
          refine mf_dup2 dX12_readLock_108 rfl rfl ?_
          refine mf_iald dX12_readLock_109 (mo_a7 hM) (fun v14 => ?_)
          refine mf_iconst (v := 1) dX12_readLock_110 rfl ?_
          refine mf_iload_n 0 dX12_readLock_111 rfl ?_
          refine mf_ishl dX12_readLock_112 ?_
          refine mf_ior dX12_readLock_113 ?_
          refine mf_iast dX12_readLock_114 (mo_a7 hM) ?_
          refine mf_aload_n 1 dX12_readLock_115 rfl ?_
          refine mf_getr 12 7 dX12_readLock_116 fl_X12_37 (by decide) (by decide) rfl (mo_o hM) (mo_r7 hM) (by decide) ?_
          refine mf_iconst (v := 5) dX12_readLock_119 rfl ?_
          refine mf_dup2 dX12_readLock_120 rfl rfl ?_
          refine mf_iald dX12_readLock_121 (mo_a7 hM) (fun v15 => ?_)
          refine mf_iconst (v := 1) dX12_readLock_122 rfl ?_
          refine mf_iadd dX12_readLock_123 ?_
          refine mf_iast dX12_readLock_124 (mo_a7 hM) ?_
          refine mf_aload_n 1 dX12_readLock_125 rfl ?_
          refine mf_cVv (rest := []) [] (aX12_next (d + 1) q hM) mY_X12_next dX12_readLock_126 ml_X12_208 (mo_o hM) rfl rfl (Nat.le_of_ble_eq_true rfl) rfl (fun _ => ?_)
          refine mf_iconst (v := 1) dX12_readLock_129 rfl ?_
          exact mf_ireturn dX12_readLock_130 rfl rfl ⟨rfl, rfl⟩
        · refine mf_aload_n 1 dX12_readLock_71 rfl ?_
          refine mf_iconst (v := 3) dX12_readLock_72 rfl ?_
          refine mf_cVi (rest := []) [.int 3] (aX12_bad (d + 2) q hM 3) mY_X12_bad dX12_readLock_73 ml_X12_205 (mo_o hM) rfl rfl (Nat.le_of_ble_eq_true rfl) rfl (fun v16 => ?_)
          exact mf_zreturn dX12_readLock_76 rfl ⟨rfl, rfl⟩
    · refine mf_iconst (v := 0) dX12_readLock_41 rfl ?_
      exact mf_ireturn dX12_readLock_42 rfl rfl ⟨rfl, rfl⟩
  · refine mf_iconst (v := 0) dX12_readLock_19 rfl ?_
    exact mf_ireturn dX12_readLock_20 rfl rfl ⟨rfl, rfl⟩
set_option maxRecDepth 100000 in
set_option maxHeartbeats 4000000 in
theorem aX12_readTrain (d : Nat) (q : m_S) (hM : isM q)  : AC rI yX12_readTrain cX12_readTrain 3 (some .boolean) (d + 4) [.ref 218] q (fX12_readTrain ) := by
  refine ac_of (by decide +kernel) (Nat.le_of_ble_eq_true rfl) ?_
  unfold fX12_readTrain
  show MF rI (yX12_readTrain.cls, cX12_readTrain, 3, (some .boolean), yX12_readTrain.name, d + 4, 0, 0) 0 [(0, .ref 218)] [] q _
  refine mf_aload_n 0 dX12_readTrain_0 rfl ?_
  refine mf_getr 12 7 dX12_readTrain_1 fl_X12_37 (by decide) (by decide) rfl (mo_o hM) (mo_r7 hM) (by decide) ?_
  refine mf_bipush (v := 6) dX12_readTrain_4 (by decide) ?_
  refine mf_iald dX12_readTrain_6 (mo_a7 hM) (fun v1 => ?_)
  refine mf_istore_n [(1, .int v1), (0, .ref 218)] dX12_readTrain_7 (Nat.le_of_ble_eq_true rfl) rfl ?_
  refine mf_iload_n 0 dX12_readTrain_8 rfl ?_
  refine mf_iconst (v := 5) dX12_readTrain_9 rfl ?_
  refine mf_icmp_ne (tgt := 19) dX12_readTrain_10 (by decide) ?_ ?_
  · refine mf_aload_n 1 dX12_readTrain_19 rfl ?_
    refine mf_cVv (rest := []) [] (aX12_next (d + 1) q hM) mY_X12_next dX12_readTrain_20 ml_X12_208 (mo_o hM) rfl rfl (Nat.le_of_ble_eq_true rfl) rfl (fun _ => ?_)
    refine mf_aload_n 1 dX12_readTrain_23 rfl ?_
    refine mf_bipush (v := 77) dX12_readTrain_24 (by decide) ?_
    refine mf_iload_n 0 dX12_readTrain_26 rfl ?_
    refine mf_iadd dX12_readTrain_27 ?_
    refine mf_cVi (rest := []) [.int (77 + v1)] (aX12_fresh (d + 0) q hM (77 + v1)) mY_X12_fresh dX12_readTrain_28 ml_X12_268 (mo_o hM) rfl rfl (Nat.le_of_ble_eq_true rfl) rfl (fun v2 => ?_)
    refine mf_if_eq (tgt := 49) dX12_readTrain_31 (by decide) ?_ ?_
    · refine mf_iconst (v := 0) dX12_readTrain_49 rfl ?_
      exact mf_ireturn dX12_readTrain_50 rfl rfl ⟨rfl, rfl⟩
    · refine mf_aload_n 1 dX12_readTrain_34 rfl ?_
      refine mf_bipush (v := 41) dX12_readTrain_35 (by decide) ?_
      refine mf_aload_n 1 dX12_readTrain_37 rfl ?_
      refine mf_getr 12 7 dX12_readTrain_38 fl_X12_37 (by decide) (by decide) rfl (mo_o hM) (mo_r7 hM) (by decide) ?_
      refine mf_iconst (v := 0) dX12_readTrain_41 rfl ?_
      refine mf_iald dX12_readTrain_42 (mo_a7 hM) (fun v3 => ?_)
      refine mf_cVi (rest := []) [.int 41, .int v3] (aX12_looksAt (d + 1) q hM 41 v3) mY_X12_looksAt dX12_readTrain_43 ml_X12_230 (mo_o hM) rfl rfl (Nat.le_of_ble_eq_true rfl) rfl (fun v4 => ?_)
      refine mf_if_ne (tgt := 51) dX12_readTrain_46 (by decide) ?_ ?_
      · refine mf_iconst (v := 0) dX12_readTrain_51 rfl ?_
        refine mf_istore_n [(2, .int 0), (1, .int v1), (0, .ref 218)] dX12_readTrain_52 (Nat.le_of_ble_eq_true rfl) rfl ?_
        refine mf_sub [2, 1, 0] rfl ?_
        refine mf_lz1 (lv := fun x5 => [(0, .ref 218), (1, .int v1), (2, .int x5)]) (fun L53 h53 x5 => ?_) _ _
        show MF rI (yX12_readTrain.cls, cX12_readTrain, 3, (some .boolean), yX12_readTrain.name, d + 4, 0, 0) 53 [(0, .ref 218), (1, .int v1), (2, .int x5)] [] q _
        refine mf_iload_n 2 dX12_readTrain_53 rfl ?_
        refine mf_iload_n 1 dX12_readTrain_54 rfl ?_
        refine mf_icmp_ge (tgt := 87) dX12_readTrain_55 (by decide) ?_ ?_
        · refine mf_aload_n 0 dX12_readTrain_87 rfl ?_
          refine mf_getr 12 7 dX12_readTrain_88 fl_X12_37 (by decide) (by decide) rfl (mo_o hM) (mo_r7 hM) (by decide) ?_
          refine mf_sipush (v := 216) dX12_readTrain_91 (by decide) ?_
          refine mf_iload_n 1 dX12_readTrain_94 rfl ?_
          refine mf_iadd dX12_readTrain_95 ?_
          refine mf_aload_n 0 dX12_readTrain_96 rfl ?_
          refine mf_geti 12 18 dX12_readTrain_97 fl_X12_215 (by decide) (by decide) rfl (mo_o hM) (fun v6 => ?_)
          refine mf_iast dX12_readTrain_100 (mo_a7 hM) ?_
          refine mf_aload_n 0 dX12_readTrain_101 rfl ?_
          refine mf_cVv (rest := []) [] (aX12_next (d + 1) q hM) mY_X12_next dX12_readTrain_102 ml_X12_208 (mo_o hM) rfl rfl (Nat.le_of_ble_eq_true rfl) rfl (fun _ => ?_)
          refine mf_aload_n 0 dX12_readTrain_105 rfl ?_
          refine mf_cVi (rest := []) [] (aX12_wayWord (d + 1) q hM) mY_X12_wayWord dX12_readTrain_106 ml_X12_277 (mo_o hM) rfl rfl (Nat.le_of_ble_eq_true rfl) rfl (fun v7 => ?_)
          refine mf_istore_n [(2, .int v7), (0, .ref 218), (1, .int v1)] dX12_readTrain_109 (Nat.le_of_ble_eq_true rfl) rfl ?_
          refine mf_iload_n 0 dX12_readTrain_110 rfl ?_
          refine mf_if_ge (tgt := 120) dX12_readTrain_111 (by decide) ?_ ?_
          · refine mf_aload_n 1 dX12_readTrain_120 rfl ?_
            refine mf_getr 12 7 dX12_readTrain_121 fl_X12_37 (by decide) (by decide) rfl (mo_o hM) (mo_r7 hM) (by decide) ?_
            refine mf_sipush (v := 221) dX12_readTrain_124 (by decide) ?_
            refine mf_iload_n 2 dX12_readTrain_127 rfl ?_
            refine mf_iadd dX12_readTrain_128 ?_
            refine mf_iload_n 0 dX12_readTrain_129 rfl ?_
            refine mf_iast dX12_readTrain_130 (mo_a7 hM) ?_
            refine mf_aload_n 1 dX12_readTrain_131 rfl ?_
            refine mf_cVv (rest := []) [] (aX12_next (d + 1) q hM) mY_X12_next dX12_readTrain_132 ml_X12_208 (mo_o hM) rfl rfl (Nat.le_of_ble_eq_true rfl) rfl (fun _ => ?_)
            refine mf_aload_n 1 dX12_readTrain_135 rfl ?_
            refine mf_getr 12 7 dX12_readTrain_136 fl_X12_37 (by decide) (by decide) rfl (mo_o hM) (mo_r7 hM) (by decide) ?_
            refine mf_bipush (v := 6) dX12_readTrain_139 (by decide) ?_
            refine mf_dup2 dX12_readTrain_141 rfl rfl ?_
            refine mf_iald dX12_readTrain_142 (mo_a7 hM) (fun v8 => ?_)
            refine mf_iconst (v := 1) dX12_readTrain_143 rfl ?_
            refine mf_iadd dX12_readTrain_144 ?_
            refine mf_iast dX12_readTrain_145 (mo_a7 hM) ?_
            refine mf_iconst (v := 1) dX12_readTrain_146 rfl ?_
            exact mf_ireturn dX12_readTrain_147 rfl rfl ⟨rfl, rfl⟩
          · refine mf_aload_n 1 dX12_readTrain_114 rfl ?_
            refine mf_iconst (v := 1) dX12_readTrain_115 rfl ?_
            refine mf_cVi (rest := []) [.int 1] (aX12_bad (d + 2) q hM 1) mY_X12_bad dX12_readTrain_116 ml_X12_205 (mo_o hM) rfl rfl (Nat.le_of_ble_eq_true rfl) rfl (fun v9 => ?_)
            exact mf_zreturn dX12_readTrain_119 rfl ⟨rfl, rfl⟩
        · refine mf_aload_n 0 dX12_readTrain_58 rfl ?_
          refine mf_getr 12 7 dX12_readTrain_59 fl_X12_37 (by decide) (by decide) rfl (mo_o hM) (mo_r7 hM) (by decide) ?_
          refine mf_sipush (v := 216) dX12_readTrain_62 (by decide) ?_
          refine mf_iload_n 2 dX12_readTrain_65 rfl ?_
          refine mf_iadd dX12_readTrain_66 ?_
          refine mf_iald dX12_readTrain_67 (mo_a7 hM) (fun v10 => ?_)
          refine mf_aload_n 0 dX12_readTrain_68 rfl ?_
          refine mf_geti 12 18 dX12_readTrain_69 fl_X12_215 (by decide) (by decide) rfl (mo_o hM) (fun v11 => ?_)
          refine mf_icmp_ne (tgt := 81) dX12_readTrain_72 (by decide) ?_ ?_
          · refine mf_iinc 2 (x5 + 1) [(2, .int (x5 + 1)), (0, .ref 218), (1, .int v1)] dX12_readTrain_81 rfl rfl (Nat.le_of_ble_eq_true rfl) rfl ?_
            refine mf_goto (tgt := 53) dX12_readTrain_84 (by decide) ?_
            refine mf_sub [1, 2, 0] rfl ?_
            exact h53 _
          · refine mf_aload_n 0 dX12_readTrain_75 rfl ?_
            refine mf_iconst (v := 3) dX12_readTrain_76 rfl ?_
            refine mf_cVi (rest := []) [.int 3] (aX12_bad (d + 2) q hM 3) mY_X12_bad dX12_readTrain_77 ml_X12_205 (mo_o hM) rfl rfl (Nat.le_of_ble_eq_true rfl) rfl (fun v12 => ?_)
            exact mf_zreturn dX12_readTrain_80 rfl ⟨rfl, rfl⟩
      · refine mf_iconst (v := 0) dX12_readTrain_49 rfl ?_
        exact mf_ireturn dX12_readTrain_50 rfl rfl ⟨rfl, rfl⟩
  · refine mf_aload_n 1 dX12_readTrain_13 rfl ?_
    refine mf_iconst (v := 4) dX12_readTrain_14 rfl ?_
    refine mf_cVi (rest := []) [.int 4] (aX12_bad (d + 2) q hM 4) mY_X12_bad dX12_readTrain_15 ml_X12_205 (mo_o hM) rfl rfl (Nat.le_of_ble_eq_true rfl) rfl (fun v13 => ?_)
    exact mf_zreturn dX12_readTrain_18 rfl ⟨rfl, rfl⟩
set_option maxRecDepth 100000 in
set_option maxHeartbeats 4000000 in
theorem aX12_readLine (d : Nat) (q : m_S) (hM : isM q)  : AC rI yX12_readLine cX12_readLine 1 (some .boolean) (d + 6) [.ref 218] q (fX12_readLine ) := by
  refine ac_of (by decide +kernel) (Nat.le_of_ble_eq_true rfl) ?_
  unfold fX12_readLine
  show MF rI (yX12_readLine.cls, cX12_readLine, 1, (some .boolean), yX12_readLine.name, d + 6, 0, 0) 0 [(0, .ref 218)] [] q _
  refine mf_aload_n 0 dX12_readLine_0 rfl ?_
  refine mf_ldc2 dX12_readLine_1 cl_X12_102 ?_
  refine mf_cVi (rest := []) [.long 32481100150959982] (aX12_isWord (d + 4) q hM 32481100150959982) mY_X12_isWord dX12_readLine_4 ml_X12_233 (mo_o hM) rfl rfl (Nat.le_of_ble_eq_true rfl) rfl (fun v1 => ?_)
  refine mf_if_eq (tgt := 15) dX12_readLine_7 (by decide) ?_ ?_
  · refine mf_aload_n 0 dX12_readLine_15 rfl ?_
    refine mf_ldc2 dX12_readLine_16 cl_X12_104 ?_
    refine mf_cVi (rest := []) [.long 123623812527219] (aX12_isWord (d + 4) q hM 123623812527219) mY_X12_isWord dX12_readLine_19 ml_X12_233 (mo_o hM) rfl rfl (Nat.le_of_ble_eq_true rfl) rfl (fun v2 => ?_)
    refine mf_if_eq (tgt := 30) dX12_readLine_22 (by decide) ?_ ?_
    · refine mf_aload_n 0 dX12_readLine_30 rfl ?_
      refine mf_ldc2 dX12_readLine_31 cl_X12_106 ?_
      refine mf_cVi (rest := []) [.long 500135191403] (aX12_isWord (d + 4) q hM 500135191403) mY_X12_isWord dX12_readLine_34 ml_X12_233 (mo_o hM) rfl rfl (Nat.le_of_ble_eq_true rfl) rfl (fun v3 => ?_)
      refine mf_if_eq (tgt := 45) dX12_readLine_37 (by decide) ?_ ?_
      · refine mf_aload_n 0 dX12_readLine_45 rfl ?_
        refine mf_ldc2 dX12_readLine_46 cl_X12_108 ?_
        refine mf_cVi (rest := []) [.long 126896544047468] (aX12_isWord (d + 4) q hM 126896544047468) mY_X12_isWord dX12_readLine_49 ml_X12_233 (mo_o hM) rfl rfl (Nat.le_of_ble_eq_true rfl) rfl (fun v4 => ?_)
        refine mf_if_eq (tgt := 60) dX12_readLine_52 (by decide) ?_ ?_
        · refine mf_aload_n 0 dX12_readLine_60 rfl ?_
          refine mf_ldc2 dX12_readLine_61 cl_X12_110 ?_
          refine mf_cVi (rest := []) [.long 491496240229] (aX12_isWord (d + 4) q hM 491496240229) mY_X12_isWord dX12_readLine_64 ml_X12_233 (mo_o hM) rfl rfl (Nat.le_of_ble_eq_true rfl) rfl (fun v5 => ?_)
          refine mf_if_eq (tgt := 75) dX12_readLine_67 (by decide) ?_ ?_
          · refine mf_aload_n 0 dX12_readLine_75 rfl ?_
            refine mf_ldc2 dX12_readLine_76 cl_X12_112 ?_
            refine mf_cVi (rest := []) [.long 1870030194] (aX12_isWord (d + 4) q hM 1870030194) mY_X12_isWord dX12_readLine_79 ml_X12_233 (mo_o hM) rfl rfl (Nat.le_of_ble_eq_true rfl) rfl (fun v6 => ?_)
            refine mf_if_eq (tgt := 90) dX12_readLine_82 (by decide) ?_ ?_
            · refine mf_aload_n 0 dX12_readLine_90 rfl ?_
              refine mf_ldc2 dX12_readLine_91 cl_X12_114 ?_
              refine mf_cVi (rest := []) [.long 1819239275] (aX12_isWord (d + 4) q hM 1819239275) mY_X12_isWord dX12_readLine_94 ml_X12_233 (mo_o hM) rfl rfl (Nat.le_of_ble_eq_true rfl) rfl (fun v7 => ?_)
              refine mf_if_eq (tgt := 105) dX12_readLine_97 (by decide) ?_ ?_
              · refine mf_aload_n 0 dX12_readLine_105 rfl ?_
                refine mf_ldc2 dX12_readLine_106 cl_X12_116 ?_
                refine mf_cVi (rest := []) [.long 500135192942] (aX12_isWord (d + 4) q hM 500135192942) mY_X12_isWord dX12_readLine_109 ml_X12_233 (mo_o hM) rfl rfl (Nat.le_of_ble_eq_true rfl) rfl (fun v8 => ?_)
                refine mf_if_eq (tgt := 120) dX12_readLine_112 (by decide) ?_ ?_
                · refine mf_aload_n 0 dX12_readLine_120 rfl ?_
                  refine mf_ldc2 dX12_readLine_121 cl_X12_118 ?_
                  refine mf_cVi (rest := []) [.long 1752132708] (aX12_isWord (d + 4) q hM 1752132708) mY_X12_isWord dX12_readLine_124 ml_X12_233 (mo_o hM) rfl rfl (Nat.le_of_ble_eq_true rfl) rfl (fun v9 => ?_)
                  refine mf_if_ne (tgt := 136) dX12_readLine_127 (by decide) ?_ ?_
                  · refine mf_aload_n 0 dX12_readLine_136 rfl ?_
                    refine mf_geti 12 20 dX12_readLine_137 fl_X12_261 (by decide) (by decide) rfl (mo_o hM) (fun v10 => ?_)
                    refine mf_if_eq (tgt := 149) dX12_readLine_140 (by decide) ?_ ?_
                    · refine mf_aload_n 0 dX12_readLine_149 rfl ?_
                      refine mf_iconst (v := 1) dX12_readLine_150 rfl ?_
                      refine mf_putzc 12 20 dX12_readLine_151 fl_X12_261 (by decide) (by decide) rfl rfl (mo_o hM) (by decide) ?_
                      refine mf_aload_n 0 dX12_readLine_154 rfl ?_
                      refine mf_cVv (rest := []) [] (aX12_next (d + 3) q hM) mY_X12_next dX12_readLine_155 ml_X12_208 (mo_o hM) rfl rfl (Nat.le_of_ble_eq_true rfl) rfl (fun _ => ?_)
                      refine mf_aload_n 0 dX12_readLine_158 rfl ?_
                      refine mf_bipush (v := 7) dX12_readLine_159 (by decide) ?_
                      refine mf_iconst (v := 1) dX12_readLine_161 rfl ?_
                      refine mf_bipush (v := 30) dX12_readLine_162 (by decide) ?_
                      refine mf_cVi (rest := []) [.int 7, .int 1, .int 30] (aX12_puts (d + 1) q hM 7 1 30) mY_X12_puts dX12_readLine_164 ml_X12_265 (mo_o hM) rfl rfl (Nat.le_of_ble_eq_true rfl) rfl (fun v11 => ?_)
                      exact mf_zreturn dX12_readLine_167 rfl ⟨rfl, rfl⟩
                    · refine mf_aload_n 0 dX12_readLine_143 rfl ?_
                      refine mf_iconst (v := 3) dX12_readLine_144 rfl ?_
                      refine mf_cVi (rest := []) [.int 3] (aX12_bad (d + 4) q hM 3) mY_X12_bad dX12_readLine_145 ml_X12_205 (mo_o hM) rfl rfl (Nat.le_of_ble_eq_true rfl) rfl (fun v12 => ?_)
                      exact mf_zreturn dX12_readLine_148 rfl ⟨rfl, rfl⟩
                  · refine mf_aload_n 0 dX12_readLine_130 rfl ?_
                    refine mf_iconst (v := 1) dX12_readLine_131 rfl ?_
                    refine mf_cVi (rest := []) [.int 1] (aX12_bad (d + 4) q hM 1) mY_X12_bad dX12_readLine_132 ml_X12_205 (mo_o hM) rfl rfl (Nat.le_of_ble_eq_true rfl) rfl (fun v13 => ?_)
                    exact mf_zreturn dX12_readLine_135 rfl ⟨rfl, rfl⟩
                · refine mf_aload_n 0 dX12_readLine_115 rfl ?_
                  refine mf_cVi (rest := []) [] (aX12_readTrain (d + 1) q hM) mY_X12_readTrain dX12_readLine_116 ml_X12_258 (mo_o hM) rfl rfl (Nat.le_of_ble_eq_true rfl) rfl (fun v14 => ?_)
                  exact mf_zreturn dX12_readLine_119 rfl ⟨rfl, rfl⟩
              · refine mf_aload_n 0 dX12_readLine_100 rfl ?_
                refine mf_cVi (rest := []) [] (aX12_readLock (d + 1) q hM) mY_X12_readLock dX12_readLine_101 ml_X12_255 (mo_o hM) rfl rfl (Nat.le_of_ble_eq_true rfl) rfl (fun v15 => ?_)
                exact mf_zreturn dX12_readLine_104 rfl ⟨rfl, rfl⟩
            · refine mf_aload_n 0 dX12_readLine_85 rfl ?_
              refine mf_cVi (rest := []) [] (aX12_readOver (d + 2) q hM) mY_X12_readOver dX12_readLine_86 ml_X12_252 (mo_o hM) rfl rfl (Nat.le_of_ble_eq_true rfl) rfl (fun v16 => ?_)
              exact mf_zreturn dX12_readLine_89 rfl ⟨rfl, rfl⟩
          · refine mf_aload_n 0 dX12_readLine_70 rfl ?_
            refine mf_cVi (rest := []) [] (aX12_readRoute (d + 1) q hM) mY_X12_readRoute dX12_readLine_71 ml_X12_249 (mo_o hM) rfl rfl (Nat.le_of_ble_eq_true rfl) rfl (fun v17 => ?_)
            exact mf_zreturn dX12_readLine_74 rfl ⟨rfl, rfl⟩
        · refine mf_aload_n 0 dX12_readLine_55 rfl ?_
          refine mf_cVi (rest := []) [] (aX12_readSignal (d + 1) q hM) mY_X12_readSignal dX12_readLine_56 ml_X12_246 (mo_o hM) rfl rfl (Nat.le_of_ble_eq_true rfl) rfl (fun v18 => ?_)
          exact mf_zreturn dX12_readLine_59 rfl ⟨rfl, rfl⟩
      · refine mf_aload_n 0 dX12_readLine_40 rfl ?_
        refine mf_cVi (rest := []) [] (aX12_readTrack (d + 1) q hM) mY_X12_readTrack dX12_readLine_41 ml_X12_243 (mo_o hM) rfl rfl (Nat.le_of_ble_eq_true rfl) rfl (fun v19 => ?_)
        exact mf_zreturn dX12_readLine_44 rfl ⟨rfl, rfl⟩
    · refine mf_aload_n 0 dX12_readLine_25 rfl ?_
      refine mf_cVi (rest := []) [] (aX12_readPoints (d + 1) q hM) mY_X12_readPoints dX12_readLine_26 ml_X12_240 (mo_o hM) rfl rfl (Nat.le_of_ble_eq_true rfl) rfl (fun v20 => ?_)
      exact mf_zreturn dX12_readLine_29 rfl ⟨rfl, rfl⟩
  · refine mf_aload_n 0 dX12_readLine_10 rfl ?_
    refine mf_cVi (rest := []) [] (aX12_readSection (d + 0) q hM) mY_X12_readSection dX12_readLine_11 ml_X12_237 (mo_o hM) rfl rfl (Nat.le_of_ble_eq_true rfl) rfl (fun v21 => ?_)
    exact mf_zreturn dX12_readLine_14 rfl ⟨rfl, rfl⟩
set_option maxRecDepth 100000 in
set_option maxHeartbeats 4000000 in
theorem aX12_layout (d : Nat) (q : m_S) (hM : isM q)  : AC rI yX12_layout cX12_layout 2 (some .int) (d + 7) [.ref 218] q (fX12_layout ) := by
  refine ac_of (by decide +kernel) (Nat.le_of_ble_eq_true rfl) ?_
  unfold fX12_layout
  show MF rI (yX12_layout.cls, cX12_layout, 2, (some .int), yX12_layout.name, d + 7, 0, 0) 0 [(0, .ref 218)] [] q _
  refine mf_aload_n 0 dX12_layout_0 rfl ?_
  refine mf_iconst (v := 0) dX12_layout_1 rfl ?_
  refine mf_puti 12 0 dX12_layout_2 fl_X12_1 (by decide) (by decide) rfl rfl (mo_o hM) ?_
  refine mf_aload_n 0 dX12_layout_5 rfl ?_
  refine mf_sipush (v := 1400) dX12_layout_6 (by decide) ?_
  refine mf_cVv (rest := []) [.int 1400] (aX12_taken (d + 5) q hM 1400) mY_X12_taken dX12_layout_9 ml_X12_283 (mo_o hM) rfl rfl (Nat.le_of_ble_eq_true rfl) rfl (fun _ => ?_)
  refine mf_aload_n 0 dX12_layout_12 rfl ?_
  refine mf_iconst (v := 0) dX12_layout_13 rfl ?_
  refine mf_puti 12 15 dX12_layout_14 fl_X12_196 (by decide) (by decide) rfl rfl (mo_o hM) ?_
  refine mf_aload_n 0 dX12_layout_17 rfl ?_
  refine mf_iconst (v := 0) dX12_layout_18 rfl ?_
  refine mf_puti 12 19 dX12_layout_19 fl_X12_286 (by decide) (by decide) rfl rfl (mo_o hM) ?_
  refine mf_aload_n 0 dX12_layout_22 rfl ?_
  refine mf_iconst (v := 0) dX12_layout_23 rfl ?_
  refine mf_putzc 12 20 dX12_layout_24 fl_X12_261 (by decide) (by decide) rfl rfl (mo_o hM) (by decide) ?_
  refine mf_aload_n 0 dX12_layout_27 rfl ?_
  refine mf_cVv (rest := []) [] (aX12_clears (d + 5) q hM) mY_X12_clears dX12_layout_28 ml_X12_166 (mo_o hM) rfl rfl (Nat.le_of_ble_eq_true rfl) rfl (fun _ => ?_)
  refine mf_aload_n 0 dX12_layout_31 rfl ?_
  refine mf_cVv (rest := []) [] (aX12_next (d + 4) q hM) mY_X12_next dX12_layout_32 ml_X12_208 (mo_o hM) rfl rfl (Nat.le_of_ble_eq_true rfl) rfl (fun _ => ?_)
  refine mf_lz0 (fun L35 h35  => ?_) _
  show MF rI (yX12_layout.cls, cX12_layout, 2, (some .int), yX12_layout.name, d + 7, 0, 0) 35 [(0, .ref 218)] [] q _
  refine mf_aload_n 0 dX12_layout_35 rfl ?_
  refine mf_geti 12 11 dX12_layout_36 fl_X12_179 (by decide) (by decide) rfl (mo_o hM) (fun v1 => ?_)
  refine mf_if_eq (tgt := 78) dX12_layout_39 (by decide) ?_ ?_
  · refine mf_iconst (v := 0) dX12_layout_78 rfl ?_
    refine mf_istore_n [(1, .int 0), (0, .ref 218)] dX12_layout_79 (Nat.le_of_ble_eq_true rfl) rfl ?_
    refine mf_sub [1, 0] rfl ?_
    refine mf_lz1 (lv := fun x2 => [(0, .ref 218), (1, .int x2)]) (fun L80 h80 x2 => ?_) _ _
    show MF rI (yX12_layout.cls, cX12_layout, 2, (some .int), yX12_layout.name, d + 7, 0, 0) 80 [(0, .ref 218), (1, .int x2)] [] q _
    refine mf_iload_n 1 dX12_layout_80 rfl ?_
    refine mf_sipush (v := 469) dX12_layout_81 (by decide) ?_
    refine mf_icmp_ge (tgt := 116) dX12_layout_84 (by decide) ?_ ?_
    · refine mf_iconst (v := 0) dX12_layout_116 rfl ?_
      refine mf_istore_n [(1, .int 0), (0, .ref 218)] dX12_layout_117 (Nat.le_of_ble_eq_true rfl) rfl ?_
      refine mf_sub [1, 0] rfl ?_
      refine mf_lz1 (lv := fun x3 => [(0, .ref 218), (1, .int x3)]) (fun L118 h118 x3 => ?_) _ _
      show MF rI (yX12_layout.cls, cX12_layout, 2, (some .int), yX12_layout.name, d + 7, 0, 0) 118 [(0, .ref 218), (1, .int x3)] [] q _
      refine mf_iload_n 1 dX12_layout_118 rfl ?_
      refine mf_bipush (v := 41) dX12_layout_119 (by decide) ?_
      refine mf_icmp_ge (tgt := 145) dX12_layout_121 (by decide) ?_ ?_
      · refine mf_iconst (v := 0) dX12_layout_145 rfl ?_
        refine mf_istore_n [(1, .int 0), (0, .ref 218)] dX12_layout_146 (Nat.le_of_ble_eq_true rfl) rfl ?_
        refine mf_sub [1, 0] rfl ?_
        refine mf_lz1 (lv := fun x4 => [(0, .ref 218), (1, .int x4)]) (fun L147 h147 x4 => ?_) _ _
        show MF rI (yX12_layout.cls, cX12_layout, 2, (some .int), yX12_layout.name, d + 7, 0, 0) 147 [(0, .ref 218), (1, .int x4)] [] q _
        refine mf_iload_n 1 dX12_layout_147 rfl ?_
        refine mf_aload_n 0 dX12_layout_148 rfl ?_
        refine mf_getr 12 6 dX12_layout_149 fl_X12_33 (by decide) (by decide) rfl (mo_o hM) (mo_r6 hM) (by decide) ?_
        refine mf_bipush (v := 6) dX12_layout_152 (by decide) ?_
        refine mf_iald dX12_layout_154 (mo_a6 hM) (fun v5 => ?_)
        refine mf_icmp_ge (tgt := 186) dX12_layout_155 (by decide) ?_ ?_
        · refine mf_aload_n 0 dX12_layout_186 rfl ?_
          refine mf_iconst (v := 0) dX12_layout_187 rfl ?_
          refine mf_puti 12 23 dX12_layout_188 fl_X12_295 (by decide) (by decide) rfl rfl (mo_o hM) ?_
          refine mf_aload_n 0 dX12_layout_191 rfl ?_
          refine mf_geti 12 19 dX12_layout_192 fl_X12_286 (by decide) (by decide) rfl (mo_o hM) (fun v6 => ?_)
          exact mf_ireturn dX12_layout_195 rfl rfl ⟨rfl, rfl⟩
        · refine mf_aload_n 0 dX12_layout_158 rfl ?_
          refine mf_getr 12 6 dX12_layout_159 fl_X12_33 (by decide) (by decide) rfl (mo_o hM) (mo_r6 hM) (by decide) ?_
          refine mf_sipush (v := 271) dX12_layout_162 (by decide) ?_
          refine mf_iload_n 1 dX12_layout_165 rfl ?_
          refine mf_iadd dX12_layout_166 ?_
          refine mf_aload_n 0 dX12_layout_167 rfl ?_
          refine mf_getr 12 6 dX12_layout_168 fl_X12_33 (by decide) (by decide) rfl (mo_o hM) (mo_r6 hM) (by decide) ?_
          refine mf_sipush (v := 216) dX12_layout_171 (by decide) ?_
          refine mf_iload_n 1 dX12_layout_174 rfl ?_
          refine mf_iadd dX12_layout_175 ?_
          refine mf_iald dX12_layout_176 (mo_a6 hM) (fun v7 => ?_)
          refine mf_iconst (v := 1) dX12_layout_177 rfl ?_
          refine mf_iadd dX12_layout_178 ?_
          refine mf_iast dX12_layout_179 (mo_a6 hM) ?_
          refine mf_iinc 1 (x4 + 1) [(1, .int (x4 + 1)), (0, .ref 218)] dX12_layout_180 rfl rfl (Nat.le_of_ble_eq_true rfl) rfl ?_
          refine mf_goto (tgt := 147) dX12_layout_183 (by decide) ?_
          refine mf_sub [1, 0] rfl ?_
          exact h147 _
      · refine mf_aload_n 0 dX12_layout_124 rfl ?_
        refine mf_getr 12 9 dX12_layout_125 fl_X12_43 (by decide) (by decide) rfl (mo_o hM) (mo_r9 hM) (by decide) ?_
        refine mf_iload_n 1 dX12_layout_128 rfl ?_
        refine mf_aload_n 0 dX12_layout_129 rfl ?_
        refine mf_getr 12 9 dX12_layout_130 fl_X12_43 (by decide) (by decide) rfl (mo_o hM) (mo_r9 hM) (by decide) ?_
        refine mf_bipush (v := 41) dX12_layout_133 (by decide) ?_
        refine mf_iload_n 1 dX12_layout_135 rfl ?_
        refine mf_iadd dX12_layout_136 ?_
        refine mf_lald dX12_layout_137 (mo_a9 hM) (fun v8 => ?_)
        refine mf_last dX12_layout_138 (mo_a9 hM) ?_
        refine mf_iinc 1 (x3 + 1) [(1, .int (x3 + 1)), (0, .ref 218)] dX12_layout_139 rfl rfl (Nat.le_of_ble_eq_true rfl) rfl ?_
        refine mf_goto (tgt := 118) dX12_layout_142 (by decide) ?_
        refine mf_sub [1, 0] rfl ?_
        exact h118 _
    · refine mf_aload_n 0 dX12_layout_87 rfl ?_
      refine mf_getr 12 6 dX12_layout_88 fl_X12_33 (by decide) (by decide) rfl (mo_o hM) (mo_r6 hM) (by decide) ?_
      refine mf_iload_n 1 dX12_layout_91 rfl ?_
      refine mf_iload_n 1 dX12_layout_92 rfl ?_
      refine mf_sipush (v := 226) dX12_layout_93 (by decide) ?_
      refine mf_icmp_ge (tgt := 108) dX12_layout_96 (by decide) ?_ ?_
      · refine mf_iconst (v := 0) dX12_layout_108 rfl ?_
        refine mf_iast dX12_layout_109 (mo_a6 hM) ?_
        refine mf_iinc 1 (x2 + 1) [(1, .int (x2 + 1)), (0, .ref 218)] dX12_layout_110 rfl rfl (Nat.le_of_ble_eq_true rfl) rfl ?_
        refine mf_goto (tgt := 80) dX12_layout_113 (by decide) ?_
        refine mf_sub [1, 0] rfl ?_
        exact h80 _
      · refine mf_aload_n 0 dX12_layout_99 rfl ?_
        refine mf_getr 12 7 dX12_layout_100 fl_X12_37 (by decide) (by decide) rfl (mo_o hM) (mo_r7 hM) (by decide) ?_
        refine mf_iload_n 1 dX12_layout_103 rfl ?_
        refine mf_iald dX12_layout_104 (mo_a7 hM) (fun v9 => ?_)
        refine mf_goto (tgt := 109) dX12_layout_105 (by decide) ?_
        refine mf_iast dX12_layout_109 (mo_a6 hM) ?_
        refine mf_iinc 1 (x2 + 1) [(1, .int (x2 + 1)), (0, .ref 218)] dX12_layout_110 rfl rfl (Nat.le_of_ble_eq_true rfl) rfl ?_
        refine mf_goto (tgt := 80) dX12_layout_113 (by decide) ?_
        refine mf_sub [1, 0] rfl ?_
        exact h80 _
  · refine mf_aload_n 0 dX12_layout_42 rfl ?_
    refine mf_cVi (rest := []) [] (aX12_readLine (d + 0) q hM) mY_X12_readLine dX12_layout_43 ml_X12_289 (mo_o hM) rfl rfl (Nat.le_of_ble_eq_true rfl) rfl (fun v10 => ?_)
    refine mf_if_eq (tgt := 58) dX12_layout_46 (by decide) ?_ ?_
    · refine mf_iconst (v := -1) dX12_layout_58 rfl ?_
      refine mf_aload_n 0 dX12_layout_59 rfl ?_
      refine mf_geti 12 16 dX12_layout_60 fl_X12_199 (by decide) (by decide) rfl (mo_o hM) (fun v11 => ?_)
      refine mf_isub dX12_layout_63 ?_
      exact mf_ireturn dX12_layout_64 rfl rfl ⟨rfl, rfl⟩
    · refine mf_aload_n 0 dX12_layout_49 rfl ?_
      refine mf_bipush (v := 59) dX12_layout_50 (by decide) ?_
      refine mf_cVi (rest := []) [.int 59] (aX12_sign (d + 3) q hM 59) mY_X12_sign dX12_layout_52 ml_X12_292 (mo_o hM) rfl rfl (Nat.le_of_ble_eq_true rfl) rfl (fun v12 => ?_)
      refine mf_if_ne (tgt := 65) dX12_layout_55 (by decide) ?_ ?_
      · refine mf_aload_n 0 dX12_layout_65 rfl ?_
        refine mf_dup dX12_layout_66 rfl ?_
        refine mf_geti 12 19 dX12_layout_67 fl_X12_286 (by decide) (by decide) rfl (mo_o hM) (fun v13 => ?_)
        refine mf_iconst (v := 1) dX12_layout_70 rfl ?_
        refine mf_iadd dX12_layout_71 ?_
        refine mf_puti 12 19 dX12_layout_72 fl_X12_286 (by decide) (by decide) rfl rfl (mo_o hM) ?_
        refine mf_goto (tgt := 35) dX12_layout_75 (by decide) ?_
        exact h35
      · refine mf_iconst (v := -1) dX12_layout_58 rfl ?_
        refine mf_aload_n 0 dX12_layout_59 rfl ?_
        refine mf_geti 12 16 dX12_layout_60 fl_X12_199 (by decide) (by decide) rfl (mo_o hM) (fun v14 => ?_)
        refine mf_isub dX12_layout_63 ?_
        exact mf_ireturn dX12_layout_64 rfl rfl ⟨rfl, rfl⟩
set_option maxRecDepth 100000 in
set_option maxHeartbeats 4000000 in
theorem aX12_fault (d : Nat) (q : m_S) (hM : isM q)  : AC rI yX12_fault cX12_fault 1 (some .int) (d + 1) [.ref 218] q (fX12_fault ) := by
  refine ac_of (by decide +kernel) (Nat.le_of_ble_eq_true rfl) ?_
  unfold fX12_fault
  show MF rI (yX12_fault.cls, cX12_fault, 1, (some .int), yX12_fault.name, d + 1, 0, 0) 0 [(0, .ref 218)] [] q _
  refine mf_aload_n 0 dX12_fault_0 rfl ?_
  refine mf_iconst (v := 0) dX12_fault_1 rfl ?_
  refine mf_puti 12 0 dX12_fault_2 fl_X12_1 (by decide) (by decide) rfl rfl (mo_o hM) ?_
  refine mf_aload_n 0 dX12_fault_5 rfl ?_
  refine mf_geti 12 15 dX12_fault_6 fl_X12_196 (by decide) (by decide) rfl (mo_o hM) (fun v1 => ?_)
  exact mf_ireturn dX12_fault_9 rfl rfl ⟨rfl, rfl⟩
set_option maxRecDepth 100000 in
set_option maxHeartbeats 4000000 in
theorem aX12_isSection (d : Nat) (q : m_S) (hM : isM q) (a1 : Int32) : AC rI yX12_isSection cX12_isSection 2 (some .boolean) (d + 2) [.ref 218, .int a1] q (fX12_isSection a1) := by
  refine ac_of (by decide +kernel) (Nat.le_of_ble_eq_true rfl) ?_
  unfold fX12_isSection
  show MF rI (yX12_isSection.cls, cX12_isSection, 2, (some .boolean), yX12_isSection.name, d + 2, 0, 0) 0 [(0, .ref 218), (1, .int a1)] [] q _
  refine mf_iload_n 1 dX12_isSection_0 rfl ?_
  refine mf_iconst (v := 0) dX12_isSection_1 rfl ?_
  refine mf_aload_n 0 dX12_isSection_2 rfl ?_
  refine mf_getr 12 6 dX12_isSection_3 fl_X12_33 (by decide) (by decide) rfl (mo_o hM) (mo_r6 hM) (by decide) ?_
  refine mf_iconst (v := 0) dX12_isSection_6 rfl ?_
  refine mf_iald dX12_isSection_7 (mo_a6 hM) (fun v1 => ?_)
  refine mf_iconst (v := 1) dX12_isSection_8 rfl ?_
  refine mf_isub dX12_isSection_9 ?_
  refine mf_cSi (rest := []) [.int a1, .int 0, .int (v1 - 1)] (aX12_isIn (d + 0) q a1 0 (v1 - 1)) mY_X12_isIn dX12_isSection_10 ml_X12_211 rfl rfl (Nat.le_of_ble_eq_true rfl) rfl (fun v2 => ?_)
  exact mf_zreturn dX12_isSection_13 rfl ⟨rfl, rfl⟩
set_option maxRecDepth 100000 in
set_option maxHeartbeats 4000000 in
theorem aX12_arePoints (d : Nat) (q : m_S) (hM : isM q) (a1 : Int32) : AC rI yX12_arePoints cX12_arePoints 2 (some .boolean) (d + 2) [.ref 218, .int a1] q (fX12_arePoints a1) := by
  refine ac_of (by decide +kernel) (Nat.le_of_ble_eq_true rfl) ?_
  unfold fX12_arePoints
  show MF rI (yX12_arePoints.cls, cX12_arePoints, 2, (some .boolean), yX12_arePoints.name, d + 2, 0, 0) 0 [(0, .ref 218), (1, .int a1)] [] q _
  refine mf_iload_n 1 dX12_arePoints_0 rfl ?_
  refine mf_iconst (v := 0) dX12_arePoints_1 rfl ?_
  refine mf_aload_n 0 dX12_arePoints_2 rfl ?_
  refine mf_getr 12 6 dX12_arePoints_3 fl_X12_33 (by decide) (by decide) rfl (mo_o hM) (mo_r6 hM) (by decide) ?_
  refine mf_iconst (v := 1) dX12_arePoints_6 rfl ?_
  refine mf_iald dX12_arePoints_7 (mo_a6 hM) (fun v1 => ?_)
  refine mf_iconst (v := 1) dX12_arePoints_8 rfl ?_
  refine mf_isub dX12_arePoints_9 ?_
  refine mf_cSi (rest := []) [.int a1, .int 0, .int (v1 - 1)] (aX12_isIn (d + 0) q a1 0 (v1 - 1)) mY_X12_isIn dX12_arePoints_10 ml_X12_211 rfl rfl (Nat.le_of_ble_eq_true rfl) rfl (fun v2 => ?_)
  exact mf_zreturn dX12_arePoints_13 rfl ⟨rfl, rfl⟩
set_option maxRecDepth 100000 in
set_option maxHeartbeats 4000000 in
theorem aX12_isRoute (d : Nat) (q : m_S) (hM : isM q) (a1 : Int32) : AC rI yX12_isRoute cX12_isRoute 2 (some .boolean) (d + 2) [.ref 218, .int a1] q (fX12_isRoute a1) := by
  refine ac_of (by decide +kernel) (Nat.le_of_ble_eq_true rfl) ?_
  unfold fX12_isRoute
  show MF rI (yX12_isRoute.cls, cX12_isRoute, 2, (some .boolean), yX12_isRoute.name, d + 2, 0, 0) 0 [(0, .ref 218), (1, .int a1)] [] q _
  refine mf_iload_n 1 dX12_isRoute_0 rfl ?_
  refine mf_iconst (v := 0) dX12_isRoute_1 rfl ?_
  refine mf_aload_n 0 dX12_isRoute_2 rfl ?_
  refine mf_getr 12 6 dX12_isRoute_3 fl_X12_33 (by decide) (by decide) rfl (mo_o hM) (mo_r6 hM) (by decide) ?_
  refine mf_iconst (v := 4) dX12_isRoute_6 rfl ?_
  refine mf_iald dX12_isRoute_7 (mo_a6 hM) (fun v1 => ?_)
  refine mf_iconst (v := 1) dX12_isRoute_8 rfl ?_
  refine mf_isub dX12_isRoute_9 ?_
  refine mf_cSi (rest := []) [.int a1, .int 0, .int (v1 - 1)] (aX12_isIn (d + 0) q a1 0 (v1 - 1)) mY_X12_isIn dX12_isRoute_10 ml_X12_211 rfl rfl (Nat.le_of_ble_eq_true rfl) rfl (fun v2 => ?_)
  exact mf_zreturn dX12_isRoute_13 rfl ⟨rfl, rfl⟩
set_option maxRecDepth 100000 in
set_option maxHeartbeats 4000000 in
theorem aX12_isTrain (d : Nat) (q : m_S) (hM : isM q) (a1 : Int32) : AC rI yX12_isTrain cX12_isTrain 2 (some .boolean) (d + 2) [.ref 218, .int a1] q (fX12_isTrain a1) := by
  refine ac_of (by decide +kernel) (Nat.le_of_ble_eq_true rfl) ?_
  unfold fX12_isTrain
  show MF rI (yX12_isTrain.cls, cX12_isTrain, 2, (some .boolean), yX12_isTrain.name, d + 2, 0, 0) 0 [(0, .ref 218), (1, .int a1)] [] q _
  refine mf_iload_n 1 dX12_isTrain_0 rfl ?_
  refine mf_iconst (v := 0) dX12_isTrain_1 rfl ?_
  refine mf_aload_n 0 dX12_isTrain_2 rfl ?_
  refine mf_getr 12 6 dX12_isTrain_3 fl_X12_33 (by decide) (by decide) rfl (mo_o hM) (mo_r6 hM) (by decide) ?_
  refine mf_bipush (v := 6) dX12_isTrain_6 (by decide) ?_
  refine mf_iald dX12_isTrain_8 (mo_a6 hM) (fun v1 => ?_)
  refine mf_iconst (v := 1) dX12_isTrain_9 rfl ?_
  refine mf_isub dX12_isTrain_10 ?_
  refine mf_cSi (rest := []) [.int a1, .int 0, .int (v1 - 1)] (aX12_isIn (d + 0) q a1 0 (v1 - 1)) mY_X12_isIn dX12_isTrain_11 ml_X12_211 rfl rfl (Nat.le_of_ble_eq_true rfl) rfl (fun v2 => ?_)
  exact mf_zreturn dX12_isTrain_14 rfl ⟨rfl, rfl⟩
set_option maxRecDepth 100000 in
set_option maxHeartbeats 4000000 in
theorem aX12_trainIn (d : Nat) (q : m_S) (hM : isM q) (a1 : Int32) (a2 : Int32) : AC rI yX12_trainIn cX12_trainIn 4 (some .int) (d + 1) [.ref 218, .int a1, .int a2] q (fX12_trainIn a1 a2) := by
  refine ac_of (by decide +kernel) (Nat.le_of_ble_eq_true rfl) ?_
  unfold fX12_trainIn
  show MF rI (yX12_trainIn.cls, cX12_trainIn, 4, (some .int), yX12_trainIn.name, d + 1, 0, 0) 0 [(0, .ref 218), (1, .int a1), (2, .int a2)] [] q _
  refine mf_iconst (v := 0) dX12_trainIn_0 rfl ?_
  refine mf_istore_n [(3, .int 0), (0, .ref 218), (1, .int a1), (2, .int a2)] dX12_trainIn_1 (Nat.le_of_ble_eq_true rfl) rfl ?_
  refine mf_sub [1, 2, 3, 0] rfl ?_
  refine mf_lz1 (lv := fun x1 => [(0, .ref 218), (1, .int a1), (2, .int a2), (3, .int x1)]) (fun L2 h2 x1 => ?_) _ _
  show MF rI (yX12_trainIn.cls, cX12_trainIn, 4, (some .int), yX12_trainIn.name, d + 1, 0, 0) 2 [(0, .ref 218), (1, .int a1), (2, .int a2), (3, .int x1)] [] q _
  refine mf_iload_n 3 dX12_trainIn_2 rfl ?_
  refine mf_aload_n 0 dX12_trainIn_3 rfl ?_
  refine mf_getr 12 6 dX12_trainIn_4 fl_X12_33 (by decide) (by decide) rfl (mo_o hM) (mo_r6 hM) (by decide) ?_
  refine mf_bipush (v := 6) dX12_trainIn_7 (by decide) ?_
  refine mf_iald dX12_trainIn_9 (mo_a6 hM) (fun v2 => ?_)
  refine mf_icmp_ge (tgt := 42) dX12_trainIn_10 (by decide) ?_ ?_
  · refine mf_iconst (v := -1) dX12_trainIn_42 rfl ?_
    exact mf_ireturn dX12_trainIn_43 rfl rfl ⟨rfl, rfl⟩
  · refine mf_iload_n 3 dX12_trainIn_13 rfl ?_
    refine mf_iload_n 2 dX12_trainIn_14 rfl ?_
    refine mf_icmp_eq (tgt := 36) dX12_trainIn_15 (by decide) ?_ ?_
    · refine mf_iinc 3 (x1 + 1) [(3, .int (x1 + 1)), (0, .ref 218), (1, .int a1), (2, .int a2)] dX12_trainIn_36 rfl rfl (Nat.le_of_ble_eq_true rfl) rfl ?_
      refine mf_goto (tgt := 2) dX12_trainIn_39 (by decide) ?_
      refine mf_sub [1, 2, 3, 0] rfl ?_
      exact h2 _
    · refine mf_aload_n 0 dX12_trainIn_18 rfl ?_
      refine mf_getr 12 6 dX12_trainIn_19 fl_X12_33 (by decide) (by decide) rfl (mo_o hM) (mo_r6 hM) (by decide) ?_
      refine mf_sipush (v := 271) dX12_trainIn_22 (by decide) ?_
      refine mf_iload_n 3 dX12_trainIn_25 rfl ?_
      refine mf_iadd dX12_trainIn_26 ?_
      refine mf_iald dX12_trainIn_27 (mo_a6 hM) (fun v3 => ?_)
      refine mf_iload_n 1 dX12_trainIn_28 rfl ?_
      refine mf_iconst (v := 1) dX12_trainIn_29 rfl ?_
      refine mf_iadd dX12_trainIn_30 ?_
      refine mf_icmp_ne (tgt := 36) dX12_trainIn_31 (by decide) ?_ ?_
      · refine mf_iinc 3 (x1 + 1) [(3, .int (x1 + 1)), (0, .ref 218), (1, .int a1), (2, .int a2)] dX12_trainIn_36 rfl rfl (Nat.le_of_ble_eq_true rfl) rfl ?_
        refine mf_goto (tgt := 2) dX12_trainIn_39 (by decide) ?_
        refine mf_sub [1, 2, 3, 0] rfl ?_
        exact h2 _
      · refine mf_iload_n 3 dX12_trainIn_34 rfl ?_
        exact mf_ireturn dX12_trainIn_35 rfl rfl ⟨rfl, rfl⟩
set_option maxRecDepth 100000 in
set_option maxHeartbeats 4000000 in
theorem aX12_showsBy (d : Nat) (q : m_S) (hM : isM q) (a1 : Int32) (a2 : Int32) : AC rI yX12_showsBy cX12_showsBy 3 (some .boolean) (d + 2) [.ref 218, .int a1, .int a2] q (fX12_showsBy a1 a2) := by
  refine ac_of (by decide +kernel) (Nat.le_of_ble_eq_true rfl) ?_
  unfold fX12_showsBy
  show MF rI (yX12_showsBy.cls, cX12_showsBy, 3, (some .boolean), yX12_showsBy.name, d + 2, 0, 0) 0 [(0, .ref 218), (1, .int a1), (2, .int a2)] [] q _
  refine mf_iload_n 2 dX12_showsBy_0 rfl ?_
  refine mf_iconst (v := 2) dX12_showsBy_1 rfl ?_
  refine mf_icmp_eq (tgt := 18) dX12_showsBy_2 (by decide) ?_ ?_
  · refine mf_iconst (v := 1) dX12_showsBy_18 rfl ?_
    refine mf_goto (tgt := 23) dX12_showsBy_19 (by decide) ?_
    exact mf_ireturn dX12_showsBy_23 rfl rfl ⟨rfl, rfl⟩
  · refine mf_iload_n 2 dX12_showsBy_5 rfl ?_
    refine mf_if_ne (tgt := 22) dX12_showsBy_6 (by decide) ?_ ?_
    · refine mf_iconst (v := 0) dX12_showsBy_22 rfl ?_
      exact mf_ireturn dX12_showsBy_23 rfl rfl ⟨rfl, rfl⟩
    · refine mf_aload_n 0 dX12_showsBy_9 rfl ?_
      refine mf_iload_n 1 dX12_showsBy_10 rfl ?_
      refine mf_iconst (v := -1) dX12_showsBy_11 rfl ?_
      refine mf_cVi (rest := []) [.int a1, .int (-1)] (aX12_trainIn (d + 0) q hM a1 (-1)) mY_X12_trainIn dX12_showsBy_12 ml_X12_298 (mo_o hM) rfl rfl (Nat.le_of_ble_eq_true rfl) rfl (fun v1 => ?_)
      refine mf_if_lt (tgt := 22) dX12_showsBy_15 (by decide) ?_ ?_
      · refine mf_iconst (v := 0) dX12_showsBy_22 rfl ?_
        exact mf_ireturn dX12_showsBy_23 rfl rfl ⟨rfl, rfl⟩
      · refine mf_iconst (v := 1) dX12_showsBy_18 rfl ?_
        refine mf_goto (tgt := 23) dX12_showsBy_19 (by decide) ?_
        exact mf_ireturn dX12_showsBy_23 rfl rfl ⟨rfl, rfl⟩
set_option maxRecDepth 100000 in
set_option maxHeartbeats 4000000 in
theorem aX12_showsFull (d : Nat) (q : m_S) (hM : isM q) (a1 : Int32) : AC rI yX12_showsFull cX12_showsFull 2 (some .boolean) (d + 3) [.ref 218, .int a1] q (fX12_showsFull a1) := by
  refine ac_of (by decide +kernel) (Nat.le_of_ble_eq_true rfl) ?_
  unfold fX12_showsFull
  show MF rI (yX12_showsFull.cls, cX12_showsFull, 2, (some .boolean), yX12_showsFull.name, d + 3, 0, 0) 0 [(0, .ref 218), (1, .int a1)] [] q _
  refine mf_aload_n 0 dX12_showsFull_0 rfl ?_
  refine mf_iload_n 1 dX12_showsFull_1 rfl ?_
  refine mf_aload_n 0 dX12_showsFull_2 rfl ?_
  refine mf_getr 12 6 dX12_showsFull_3 fl_X12_33 (by decide) (by decide) rfl (mo_o hM) (mo_r6 hM) (by decide) ?_
  refine mf_sipush (v := 259) dX12_showsFull_6 (by decide) ?_
  refine mf_iload_n 1 dX12_showsFull_9 rfl ?_
  refine mf_iadd dX12_showsFull_10 ?_
  refine mf_iald dX12_showsFull_11 (mo_a6 hM) (fun v1 => ?_)
  refine mf_cVi (rest := []) [.int a1, .int v1] (aX12_showsBy (d + 0) q hM a1 v1) mY_X12_showsBy dX12_showsFull_12 ml_X12_301 (mo_o hM) rfl rfl (Nat.le_of_ble_eq_true rfl) rfl (fun v2 => ?_)
  exact mf_zreturn dX12_showsFull_15 rfl ⟨rfl, rfl⟩
set_option maxRecDepth 100000 in
set_option maxHeartbeats 4000000 in
theorem aX12_sectionsOf (d : Nat) (q : m_S) (hM : isM q) (a1 : Int32) : AC rI yX12_sectionsOf cX12_sectionsOf 4 (some .int) (d + 1) [.ref 218, .int a1] q (fX12_sectionsOf a1) := by
  refine ac_of (by decide +kernel) (Nat.le_of_ble_eq_true rfl) ?_
  unfold fX12_sectionsOf
  show MF rI (yX12_sectionsOf.cls, cX12_sectionsOf, 4, (some .int), yX12_sectionsOf.name, d + 1, 0, 0) 0 [(0, .ref 218), (1, .int a1)] [] q _
  refine mf_iconst (v := 0) dX12_sectionsOf_0 rfl ?_
  refine mf_istore_n [(2, .int 0), (0, .ref 218), (1, .int a1)] dX12_sectionsOf_1 (Nat.le_of_ble_eq_true rfl) rfl ?_
  refine mf_iconst (v := 0) dX12_sectionsOf_2 rfl ?_
  refine mf_istore_n [(3, .int 0), (2, .int 0), (0, .ref 218), (1, .int a1)] dX12_sectionsOf_3 (Nat.le_of_ble_eq_true rfl) rfl ?_
  refine mf_sub [2, 3, 1, 0] rfl ?_
  refine mf_lz2 (lv := fun x1 x2 => [(0, .ref 218), (1, .int a1), (2, .int x1), (3, .int x2)]) (fun L4 h4 x1 x2 => ?_) _ _ _
  show MF rI (yX12_sectionsOf.cls, cX12_sectionsOf, 4, (some .int), yX12_sectionsOf.name, d + 1, 0, 0) 4 [(0, .ref 218), (1, .int a1), (2, .int x1), (3, .int x2)] [] q _
  refine mf_iload_n 3 dX12_sectionsOf_4 rfl ?_
  refine mf_aload_n 0 dX12_sectionsOf_5 rfl ?_
  refine mf_getr 12 6 dX12_sectionsOf_6 fl_X12_33 (by decide) (by decide) rfl (mo_o hM) (mo_r6 hM) (by decide) ?_
  refine mf_bipush (v := 116) dX12_sectionsOf_9 (by decide) ?_
  refine mf_iload_n 1 dX12_sectionsOf_11 rfl ?_
  refine mf_iadd dX12_sectionsOf_12 ?_
  refine mf_iald dX12_sectionsOf_13 (mo_a6 hM) (fun v3 => ?_)
  refine mf_icmp_ge (tgt := 42) dX12_sectionsOf_14 (by decide) ?_ ?_
  · refine mf_iload_n 2 dX12_sectionsOf_42 rfl ?_
    exact mf_ireturn dX12_sectionsOf_43 rfl rfl ⟨rfl, rfl⟩
  · refine mf_iload_n 2 dX12_sectionsOf_17 rfl ?_
    refine mf_iconst (v := 1) dX12_sectionsOf_18 rfl ?_
    refine mf_aload_n 0 dX12_sectionsOf_19 rfl ?_
    refine mf_getr 12 6 dX12_sectionsOf_20 fl_X12_33 (by decide) (by decide) rfl (mo_o hM) (mo_r6 hM) (by decide) ?_
    refine mf_bipush (v := 126) dX12_sectionsOf_23 (by decide) ?_
    refine mf_bipush (v := 6) dX12_sectionsOf_25 (by decide) ?_
    refine mf_iload_n 1 dX12_sectionsOf_27 rfl ?_
    refine mf_imul dX12_sectionsOf_28 ?_
    refine mf_iadd dX12_sectionsOf_29 ?_
    refine mf_iload_n 3 dX12_sectionsOf_30 rfl ?_
    refine mf_iadd dX12_sectionsOf_31 ?_
    refine mf_iald dX12_sectionsOf_32 (mo_a6 hM) (fun v4 => ?_)
    refine mf_ishl dX12_sectionsOf_33 ?_
    refine mf_ior dX12_sectionsOf_34 ?_
    refine mf_istore_n [(2, .int (x1 ||| (1 <<< (v4 &&& 31)))), (0, .ref 218), (1, .int a1), (3, .int x2)] dX12_sectionsOf_35 (Nat.le_of_ble_eq_true rfl) rfl ?_
    refine mf_iinc 3 (x2 + 1) [(3, .int (x2 + 1)), (2, .int (x1 ||| (1 <<< (v4 &&& 31)))), (0, .ref 218), (1, .int a1)] dX12_sectionsOf_36 rfl rfl (Nat.le_of_ble_eq_true rfl) rfl ?_
    refine mf_goto (tgt := 4) dX12_sectionsOf_39 (by decide) ?_
    refine mf_sub [2, 3, 1, 0] rfl ?_
    exact h4 _ _
set_option maxRecDepth 100000 in
set_option maxHeartbeats 4000000 in
theorem aX12_isConflict (d : Nat) (q : m_S) (hM : isM q) (a1 : Int32) (a2 : Int32) : AC rI yX12_isConflict cX12_isConflict 3 (some .boolean) (d + 2) [.ref 218, .int a1, .int a2] q (fX12_isConflict a1 a2) := by
  refine ac_of (by decide +kernel) (Nat.le_of_ble_eq_true rfl) ?_
  unfold fX12_isConflict
  show MF rI (yX12_isConflict.cls, cX12_isConflict, 3, (some .boolean), yX12_isConflict.name, d + 2, 0, 0) 0 [(0, .ref 218), (1, .int a1), (2, .int a2)] [] q _
  refine mf_iload_n 1 dX12_isConflict_0 rfl ?_
  refine mf_iload_n 2 dX12_isConflict_1 rfl ?_
  refine mf_icmp_ne (tgt := 7) dX12_isConflict_2 (by decide) ?_ ?_
  · refine mf_aload_n 0 dX12_isConflict_7 rfl ?_
    refine mf_getr 12 6 dX12_isConflict_8 fl_X12_33 (by decide) (by decide) rfl (mo_o hM) (mo_r6 hM) (by decide) ?_
    refine mf_bipush (v := 106) dX12_isConflict_11 (by decide) ?_
    refine mf_iload_n 1 dX12_isConflict_13 rfl ?_
    refine mf_iadd dX12_isConflict_14 ?_
    refine mf_iald dX12_isConflict_15 (mo_a6 hM) (fun v1 => ?_)
    refine mf_aload_n 0 dX12_isConflict_16 rfl ?_
    refine mf_getr 12 6 dX12_isConflict_17 fl_X12_33 (by decide) (by decide) rfl (mo_o hM) (mo_r6 hM) (by decide) ?_
    refine mf_bipush (v := 106) dX12_isConflict_20 (by decide) ?_
    refine mf_iload_n 2 dX12_isConflict_22 rfl ?_
    refine mf_iadd dX12_isConflict_23 ?_
    refine mf_iald dX12_isConflict_24 (mo_a6 hM) (fun v2 => ?_)
    refine mf_icmp_eq (tgt := 88) dX12_isConflict_25 (by decide) ?_ ?_
    · refine mf_iconst (v := 1) dX12_isConflict_88 rfl ?_
      refine mf_goto (tgt := 93) dX12_isConflict_89 (by decide) ?_
      exact mf_ireturn dX12_isConflict_93 rfl rfl ⟨rfl, rfl⟩
    · refine mf_aload_n 0 dX12_isConflict_28 rfl ?_
      refine mf_iload_n 1 dX12_isConflict_29 rfl ?_
      refine mf_cVi (rest := []) [.int a1] (aX12_sectionsOf (d + 0) q hM a1) mY_X12_sectionsOf dX12_isConflict_30 ml_X12_304 (mo_o hM) rfl rfl (Nat.le_of_ble_eq_true rfl) rfl (fun v3 => ?_)
      refine mf_aload_n 0 dX12_isConflict_33 rfl ?_
      refine mf_iload_n 2 dX12_isConflict_34 rfl ?_
      refine mf_cVi (rest := [.int v3]) [.int a2] (aX12_sectionsOf (d + 0) q hM a2) mY_X12_sectionsOf dX12_isConflict_35 ml_X12_304 (mo_o hM) rfl rfl (Nat.le_of_ble_eq_true rfl) rfl (fun v4 => ?_)
      refine mf_iand dX12_isConflict_38 ?_
      refine mf_if_ne (tgt := 88) dX12_isConflict_39 (by decide) ?_ ?_
      · refine mf_iconst (v := 1) dX12_isConflict_88 rfl ?_
        refine mf_goto (tgt := 93) dX12_isConflict_89 (by decide) ?_
        exact mf_ireturn dX12_isConflict_93 rfl rfl ⟨rfl, rfl⟩
      · refine mf_aload_n 0 dX12_isConflict_42 rfl ?_
        refine mf_getr 12 6 dX12_isConflict_43 fl_X12_33 (by decide) (by decide) rfl (mo_o hM) (mo_r6 hM) (by decide) ?_
        refine mf_sipush (v := 186) dX12_isConflict_46 (by decide) ?_
        refine mf_iload_n 1 dX12_isConflict_49 rfl ?_
        refine mf_iadd dX12_isConflict_50 ?_
        refine mf_iald dX12_isConflict_51 (mo_a6 hM) (fun v5 => ?_)
        refine mf_aload_n 0 dX12_isConflict_52 rfl ?_
        refine mf_getr 12 6 dX12_isConflict_53 fl_X12_33 (by decide) (by decide) rfl (mo_o hM) (mo_r6 hM) (by decide) ?_
        refine mf_sipush (v := 196) dX12_isConflict_56 (by decide) ?_
        refine mf_iload_n 2 dX12_isConflict_59 rfl ?_
        refine mf_iadd dX12_isConflict_60 ?_
        refine mf_iald dX12_isConflict_61 (mo_a6 hM) (fun v6 => ?_)
        refine mf_iand dX12_isConflict_62 ?_
        refine mf_aload_n 0 dX12_isConflict_63 rfl ?_
        refine mf_getr 12 6 dX12_isConflict_64 fl_X12_33 (by decide) (by decide) rfl (mo_o hM) (mo_r6 hM) (by decide) ?_
        refine mf_sipush (v := 196) dX12_isConflict_67 (by decide) ?_
        refine mf_iload_n 1 dX12_isConflict_70 rfl ?_
        refine mf_iadd dX12_isConflict_71 ?_
        refine mf_iald dX12_isConflict_72 (mo_a6 hM) (fun v7 => ?_)
        refine mf_aload_n 0 dX12_isConflict_73 rfl ?_
        refine mf_getr 12 6 dX12_isConflict_74 fl_X12_33 (by decide) (by decide) rfl (mo_o hM) (mo_r6 hM) (by decide) ?_
        refine mf_sipush (v := 186) dX12_isConflict_77 (by decide) ?_
        refine mf_iload_n 2 dX12_isConflict_80 rfl ?_
        refine mf_iadd dX12_isConflict_81 ?_
        refine mf_iald dX12_isConflict_82 (mo_a6 hM) (fun v8 => ?_)
        refine mf_iand dX12_isConflict_83 ?_
        refine mf_ior dX12_isConflict_84 ?_
        refine mf_if_eq (tgt := 92) dX12_isConflict_85 (by decide) ?_ ?_
        · refine mf_iconst (v := 0) dX12_isConflict_92 rfl ?_
          exact mf_ireturn dX12_isConflict_93 rfl rfl ⟨rfl, rfl⟩
        · refine mf_iconst (v := 1) dX12_isConflict_88 rfl ?_
          refine mf_goto (tgt := 93) dX12_isConflict_89 (by decide) ?_
          exact mf_ireturn dX12_isConflict_93 rfl rfl ⟨rfl, rfl⟩
  · refine mf_iconst (v := 0) dX12_isConflict_5 rfl ?_
    exact mf_ireturn dX12_isConflict_6 rfl rfl ⟨rfl, rfl⟩
set_option maxRecDepth 100000 in
set_option maxHeartbeats 4000000 in
theorem aX12_conflictsOf (d : Nat) (q : m_S) (hM : isM q) (a1 : Int32) : AC rI yX12_conflictsOf cX12_conflictsOf 4 (some .int) (d + 3) [.ref 218, .int a1] q (fX12_conflictsOf a1) := by
  refine ac_of (by decide +kernel) (Nat.le_of_ble_eq_true rfl) ?_
  unfold fX12_conflictsOf
  show MF rI (yX12_conflictsOf.cls, cX12_conflictsOf, 4, (some .int), yX12_conflictsOf.name, d + 3, 0, 0) 0 [(0, .ref 218), (1, .int a1)] [] q _
  refine mf_iconst (v := 0) dX12_conflictsOf_0 rfl ?_
  refine mf_istore_n [(2, .int 0), (0, .ref 218), (1, .int a1)] dX12_conflictsOf_1 (Nat.le_of_ble_eq_true rfl) rfl ?_
  refine mf_iconst (v := 0) dX12_conflictsOf_2 rfl ?_
  refine mf_istore_n [(3, .int 0), (2, .int 0), (0, .ref 218), (1, .int a1)] dX12_conflictsOf_3 (Nat.le_of_ble_eq_true rfl) rfl ?_
  refine mf_sub [2, 3, 1, 0] rfl ?_
  refine mf_lz2 (lv := fun x1 x2 => [(0, .ref 218), (1, .int a1), (2, .int x1), (3, .int x2)]) (fun L4 h4 x1 x2 => ?_) _ _ _
  show MF rI (yX12_conflictsOf.cls, cX12_conflictsOf, 4, (some .int), yX12_conflictsOf.name, d + 3, 0, 0) 4 [(0, .ref 218), (1, .int a1), (2, .int x1), (3, .int x2)] [] q _
  refine mf_iload_n 3 dX12_conflictsOf_4 rfl ?_
  refine mf_aload_n 0 dX12_conflictsOf_5 rfl ?_
  refine mf_getr 12 6 dX12_conflictsOf_6 fl_X12_33 (by decide) (by decide) rfl (mo_o hM) (mo_r6 hM) (by decide) ?_
  refine mf_iconst (v := 4) dX12_conflictsOf_9 rfl ?_
  refine mf_iald dX12_conflictsOf_10 (mo_a6 hM) (fun v3 => ?_)
  refine mf_icmp_ge (tgt := 39) dX12_conflictsOf_11 (by decide) ?_ ?_
  · refine mf_iload_n 2 dX12_conflictsOf_39 rfl ?_
    exact mf_ireturn dX12_conflictsOf_40 rfl rfl ⟨rfl, rfl⟩
  · refine mf_iload_n 2 dX12_conflictsOf_14 rfl ?_
    refine mf_aload_n 0 dX12_conflictsOf_15 rfl ?_
    refine mf_iload_n 1 dX12_conflictsOf_16 rfl ?_
    refine mf_iload_n 3 dX12_conflictsOf_17 rfl ?_
    refine mf_cVi (rest := [.int x1]) [.int a1, .int x2] (aX12_isConflict (d + 0) q hM a1 x2) mY_X12_isConflict dX12_conflictsOf_18 ml_X12_308 (mo_o hM) rfl rfl (Nat.le_of_ble_eq_true rfl) rfl (fun v4 => ?_)
    refine mf_if_eq (tgt := 30) dX12_conflictsOf_21 (by decide) ?_ ?_
    · refine mf_iconst (v := 0) dX12_conflictsOf_30 rfl ?_
      refine mf_ior dX12_conflictsOf_31 ?_
      refine mf_istore_n [(2, .int (x1 ||| 0)), (0, .ref 218), (1, .int a1), (3, .int x2)] dX12_conflictsOf_32 (Nat.le_of_ble_eq_true rfl) rfl ?_
      refine mf_iinc 3 (x2 + 1) [(3, .int (x2 + 1)), (2, .int (x1 ||| 0)), (0, .ref 218), (1, .int a1)] dX12_conflictsOf_33 rfl rfl (Nat.le_of_ble_eq_true rfl) rfl ?_
      refine mf_goto (tgt := 4) dX12_conflictsOf_36 (by decide) ?_
      refine mf_sub [2, 3, 1, 0] rfl ?_
      exact h4 _ _
    · refine mf_iconst (v := 1) dX12_conflictsOf_24 rfl ?_
      refine mf_iload_n 3 dX12_conflictsOf_25 rfl ?_
      refine mf_ishl dX12_conflictsOf_26 ?_
      refine mf_goto (tgt := 31) dX12_conflictsOf_27 (by decide) ?_
      refine mf_ior dX12_conflictsOf_31 ?_
      refine mf_istore_n [(2, .int (x1 ||| (1 <<< (x2 &&& 31)))), (0, .ref 218), (1, .int a1), (3, .int x2)] dX12_conflictsOf_32 (Nat.le_of_ble_eq_true rfl) rfl ?_
      refine mf_iinc 3 (x2 + 1) [(3, .int (x2 + 1)), (2, .int (x1 ||| (1 <<< (x2 &&& 31)))), (0, .ref 218), (1, .int a1)] dX12_conflictsOf_33 rfl rfl (Nat.le_of_ble_eq_true rfl) rfl ?_
      refine mf_goto (tgt := 4) dX12_conflictsOf_36 (by decide) ?_
      refine mf_sub [2, 3, 1, 0] rfl ?_
      exact h4 _ _
set_option maxRecDepth 100000 in
set_option maxHeartbeats 4000000 in
theorem aX12_routesOf (d : Nat) (q : m_S) (hM : isM q) (a1 : Int32) : AC rI yX12_routesOf cX12_routesOf 4 (some .int) (d + 1) [.ref 218, .int a1] q (fX12_routesOf a1) := by
  refine ac_of (by decide +kernel) (Nat.le_of_ble_eq_true rfl) ?_
  unfold fX12_routesOf
  show MF rI (yX12_routesOf.cls, cX12_routesOf, 4, (some .int), yX12_routesOf.name, d + 1, 0, 0) 0 [(0, .ref 218), (1, .int a1)] [] q _
  refine mf_iconst (v := 0) dX12_routesOf_0 rfl ?_
  refine mf_istore_n [(2, .int 0), (0, .ref 218), (1, .int a1)] dX12_routesOf_1 (Nat.le_of_ble_eq_true rfl) rfl ?_
  refine mf_iconst (v := 0) dX12_routesOf_2 rfl ?_
  refine mf_istore_n [(3, .int 0), (2, .int 0), (0, .ref 218), (1, .int a1)] dX12_routesOf_3 (Nat.le_of_ble_eq_true rfl) rfl ?_
  refine mf_sub [2, 3, 1, 0] rfl ?_
  refine mf_lz2 (lv := fun x1 x2 => [(0, .ref 218), (1, .int a1), (2, .int x1), (3, .int x2)]) (fun L4 h4 x1 x2 => ?_) _ _ _
  show MF rI (yX12_routesOf.cls, cX12_routesOf, 4, (some .int), yX12_routesOf.name, d + 1, 0, 0) 4 [(0, .ref 218), (1, .int a1), (2, .int x1), (3, .int x2)] [] q _
  refine mf_iload_n 3 dX12_routesOf_4 rfl ?_
  refine mf_aload_n 0 dX12_routesOf_5 rfl ?_
  refine mf_getr 12 6 dX12_routesOf_6 fl_X12_33 (by decide) (by decide) rfl (mo_o hM) (mo_r6 hM) (by decide) ?_
  refine mf_iconst (v := 4) dX12_routesOf_9 rfl ?_
  refine mf_iald dX12_routesOf_10 (mo_a6 hM) (fun v3 => ?_)
  refine mf_icmp_ge (tgt := 43) dX12_routesOf_11 (by decide) ?_ ?_
  · refine mf_iload_n 2 dX12_routesOf_43 rfl ?_
    exact mf_ireturn dX12_routesOf_44 rfl rfl ⟨rfl, rfl⟩
  · refine mf_iload_n 2 dX12_routesOf_14 rfl ?_
    refine mf_aload_n 0 dX12_routesOf_15 rfl ?_
    refine mf_getr 12 6 dX12_routesOf_16 fl_X12_33 (by decide) (by decide) rfl (mo_o hM) (mo_r6 hM) (by decide) ?_
    refine mf_bipush (v := 106) dX12_routesOf_19 (by decide) ?_
    refine mf_iload_n 3 dX12_routesOf_21 rfl ?_
    refine mf_iadd dX12_routesOf_22 ?_
    refine mf_iald dX12_routesOf_23 (mo_a6 hM) (fun v4 => ?_)
    refine mf_iload_n 1 dX12_routesOf_24 rfl ?_
    refine mf_icmp_ne (tgt := 34) dX12_routesOf_25 (by decide) ?_ ?_
    · refine mf_iconst (v := 0) dX12_routesOf_34 rfl ?_
      refine mf_ior dX12_routesOf_35 ?_
      refine mf_istore_n [(2, .int (x1 ||| 0)), (0, .ref 218), (1, .int a1), (3, .int x2)] dX12_routesOf_36 (Nat.le_of_ble_eq_true rfl) rfl ?_
      refine mf_iinc 3 (x2 + 1) [(3, .int (x2 + 1)), (2, .int (x1 ||| 0)), (0, .ref 218), (1, .int a1)] dX12_routesOf_37 rfl rfl (Nat.le_of_ble_eq_true rfl) rfl ?_
      refine mf_goto (tgt := 4) dX12_routesOf_40 (by decide) ?_
      refine mf_sub [2, 3, 1, 0] rfl ?_
      exact h4 _ _
    · refine mf_iconst (v := 1) dX12_routesOf_28 rfl ?_
      refine mf_iload_n 3 dX12_routesOf_29 rfl ?_
      refine mf_ishl dX12_routesOf_30 ?_
      refine mf_goto (tgt := 35) dX12_routesOf_31 (by decide) ?_
      refine mf_ior dX12_routesOf_35 ?_
      refine mf_istore_n [(2, .int (x1 ||| (1 <<< (x2 &&& 31)))), (0, .ref 218), (1, .int a1), (3, .int x2)] dX12_routesOf_36 (Nat.le_of_ble_eq_true rfl) rfl ?_
      refine mf_iinc 3 (x2 + 1) [(3, .int (x2 + 1)), (2, .int (x1 ||| (1 <<< (x2 &&& 31)))), (0, .ref 218), (1, .int a1)] dX12_routesOf_37 rfl rfl (Nat.le_of_ble_eq_true rfl) rfl ?_
      refine mf_goto (tgt := 4) dX12_routesOf_40 (by decide) ?_
      refine mf_sub [2, 3, 1, 0] rfl ?_
      exact h4 _ _
set_option maxRecDepth 100000 in
set_option maxHeartbeats 4000000 in
theorem aX12_busy (d : Nat) (q : m_S) (hM : isM q)  : AC rI yX12_busy cX12_busy 3 (some .int) (d + 1) [.ref 218] q (fX12_busy ) := by
  refine ac_of (by decide +kernel) (Nat.le_of_ble_eq_true rfl) ?_
  unfold fX12_busy
  show MF rI (yX12_busy.cls, cX12_busy, 3, (some .int), yX12_busy.name, d + 1, 0, 0) 0 [(0, .ref 218)] [] q _
  refine mf_iconst (v := 0) dX12_busy_0 rfl ?_
  refine mf_istore_n [(1, .int 0), (0, .ref 218)] dX12_busy_1 (Nat.le_of_ble_eq_true rfl) rfl ?_
  refine mf_iconst (v := 0) dX12_busy_2 rfl ?_
  refine mf_istore_n [(2, .int 0), (1, .int 0), (0, .ref 218)] dX12_busy_3 (Nat.le_of_ble_eq_true rfl) rfl ?_
  refine mf_sub [2, 1, 0] rfl ?_
  refine mf_lz2 (lv := fun x1 x2 => [(0, .ref 218), (1, .int x1), (2, .int x2)]) (fun L4 h4 x1 x2 => ?_) _ _ _
  show MF rI (yX12_busy.cls, cX12_busy, 3, (some .int), yX12_busy.name, d + 1, 0, 0) 4 [(0, .ref 218), (1, .int x1), (2, .int x2)] [] q _
  refine mf_iload_n 2 dX12_busy_4 rfl ?_
  refine mf_aload_n 0 dX12_busy_5 rfl ?_
  refine mf_getr 12 6 dX12_busy_6 fl_X12_33 (by decide) (by decide) rfl (mo_o hM) (mo_r6 hM) (by decide) ?_
  refine mf_iconst (v := 4) dX12_busy_9 rfl ?_
  refine mf_iald dX12_busy_10 (mo_a6 hM) (fun v3 => ?_)
  refine mf_icmp_ge (tgt := 43) dX12_busy_11 (by decide) ?_ ?_
  · refine mf_iload_n 1 dX12_busy_43 rfl ?_
    exact mf_ireturn dX12_busy_44 rfl rfl ⟨rfl, rfl⟩
  · refine mf_iload_n 1 dX12_busy_14 rfl ?_
    refine mf_aload_n 0 dX12_busy_15 rfl ?_
    refine mf_getr 12 6 dX12_busy_16 fl_X12_33 (by decide) (by decide) rfl (mo_o hM) (mo_r6 hM) (by decide) ?_
    refine mf_sipush (v := 229) dX12_busy_19 (by decide) ?_
    refine mf_iload_n 2 dX12_busy_22 rfl ?_
    refine mf_iadd dX12_busy_23 ?_
    refine mf_iald dX12_busy_24 (mo_a6 hM) (fun v4 => ?_)
    refine mf_if_eq (tgt := 34) dX12_busy_25 (by decide) ?_ ?_
    · refine mf_iconst (v := 0) dX12_busy_34 rfl ?_
      refine mf_ior dX12_busy_35 ?_
      refine mf_istore_n [(1, .int (x1 ||| 0)), (0, .ref 218), (2, .int x2)] dX12_busy_36 (Nat.le_of_ble_eq_true rfl) rfl ?_
      refine mf_iinc 2 (x2 + 1) [(2, .int (x2 + 1)), (1, .int (x1 ||| 0)), (0, .ref 218)] dX12_busy_37 rfl rfl (Nat.le_of_ble_eq_true rfl) rfl ?_
      refine mf_goto (tgt := 4) dX12_busy_40 (by decide) ?_
      refine mf_sub [2, 1, 0] rfl ?_
      exact h4 _ _
    · refine mf_iconst (v := 1) dX12_busy_28 rfl ?_
      refine mf_iload_n 2 dX12_busy_29 rfl ?_
      refine mf_ishl dX12_busy_30 ?_
      refine mf_goto (tgt := 35) dX12_busy_31 (by decide) ?_
      refine mf_ior dX12_busy_35 ?_
      refine mf_istore_n [(1, .int (x1 ||| (1 <<< (x2 &&& 31)))), (0, .ref 218), (2, .int x2)] dX12_busy_36 (Nat.le_of_ble_eq_true rfl) rfl ?_
      refine mf_iinc 2 (x2 + 1) [(2, .int (x2 + 1)), (1, .int (x1 ||| (1 <<< (x2 &&& 31)))), (0, .ref 218)] dX12_busy_37 rfl rfl (Nat.le_of_ble_eq_true rfl) rfl ?_
      refine mf_goto (tgt := 4) dX12_busy_40 (by decide) ?_
      refine mf_sub [2, 1, 0] rfl ?_
      exact h4 _ _
set_option maxRecDepth 100000 in
set_option maxHeartbeats 4000000 in
theorem aX12_wanting (d : Nat) (q : m_S) (hM : isM q) (a1 : Int32) (a2 : Int32) : AC rI yX12_wanting cX12_wanting 5 (some .int) (d + 2) [.ref 218, .int a1, .int a2] q (fX12_wanting a1 a2) := by
  refine ac_of (by decide +kernel) (Nat.le_of_ble_eq_true rfl) ?_
  unfold fX12_wanting
  show MF rI (yX12_wanting.cls, cX12_wanting, 5, (some .int), yX12_wanting.name, d + 2, 0, 0) 0 [(0, .ref 218), (1, .int a1), (2, .int a2)] [] q _
  refine mf_iconst (v := 0) dX12_wanting_0 rfl ?_
  refine mf_istore_n [(3, .int 0), (0, .ref 218), (1, .int a1), (2, .int a2)] dX12_wanting_1 (Nat.le_of_ble_eq_true rfl) rfl ?_
  refine mf_iconst (v := 0) dX12_wanting_2 rfl ?_
  refine mf_istore [(4, .int 0), (3, .int 0), (0, .ref 218), (1, .int a1), (2, .int a2)] dX12_wanting_3 (Nat.le_of_ble_eq_true rfl) rfl ?_
  refine mf_sub [2, 3, 4, 1, 0] rfl ?_
  refine mf_lz2 (lv := fun x1 x2 => [(0, .ref 218), (1, .int a1), (2, .int a2), (3, .int x1), (4, .int x2)]) (fun L5 h5 x1 x2 => ?_) _ _ _
  show MF rI (yX12_wanting.cls, cX12_wanting, 5, (some .int), yX12_wanting.name, d + 2, 0, 0) 5 [(0, .ref 218), (1, .int a1), (2, .int a2), (3, .int x1), (4, .int x2)] [] q _
  refine mf_iload 4 dX12_wanting_5 rfl ?_
  refine mf_aload_n 0 dX12_wanting_7 rfl ?_
  refine mf_getr 12 6 dX12_wanting_8 fl_X12_33 (by decide) (by decide) rfl (mo_o hM) (mo_r6 hM) (by decide) ?_
  refine mf_iconst (v := 4) dX12_wanting_11 rfl ?_
  refine mf_iald dX12_wanting_12 (mo_a6 hM) (fun v3 => ?_)
  refine mf_icmp_ge (tgt := 49) dX12_wanting_13 (by decide) ?_ ?_
  · refine mf_iload_n 3 dX12_wanting_49 rfl ?_
    exact mf_ireturn dX12_wanting_50 rfl rfl ⟨rfl, rfl⟩
  · refine mf_iload_n 3 dX12_wanting_16 rfl ?_
    refine mf_aload_n 0 dX12_wanting_17 rfl ?_
    refine mf_getr 12 6 dX12_wanting_18 fl_X12_33 (by decide) (by decide) rfl (mo_o hM) (mo_r6 hM) (by decide) ?_
    refine mf_iload_n 2 dX12_wanting_21 rfl ?_
    refine mf_iload 4 dX12_wanting_22 rfl ?_
    refine mf_iadd dX12_wanting_24 ?_
    refine mf_iald dX12_wanting_25 (mo_a6 hM) (fun v4 => ?_)
    refine mf_iload_n 1 dX12_wanting_26 rfl ?_
    refine mf_cSi (rest := [.int x1]) [.int v4, .int a1] (aX12_bitOf (d + 0) q v4 a1) mY_X12_bitOf dX12_wanting_27 ml_X12_280 rfl rfl (Nat.le_of_ble_eq_true rfl) rfl (fun v5 => ?_)
    refine mf_if_eq (tgt := 40) dX12_wanting_30 (by decide) ?_ ?_
    · refine mf_iconst (v := 0) dX12_wanting_40 rfl ?_
      refine mf_ior dX12_wanting_41 ?_
      refine mf_istore_n [(3, .int (x1 ||| 0)), (0, .ref 218), (1, .int a1), (2, .int a2), (4, .int x2)] dX12_wanting_42 (Nat.le_of_ble_eq_true rfl) rfl ?_
      refine mf_iinc 4 (x2 + 1) [(4, .int (x2 + 1)), (3, .int (x1 ||| 0)), (0, .ref 218), (1, .int a1), (2, .int a2)] dX12_wanting_43 rfl rfl (Nat.le_of_ble_eq_true rfl) rfl ?_
      refine mf_goto (tgt := 5) dX12_wanting_46 (by decide) ?_
      refine mf_sub [2, 3, 4, 1, 0] rfl ?_
      exact h5 _ _
    · refine mf_iconst (v := 1) dX12_wanting_33 rfl ?_
      refine mf_iload 4 dX12_wanting_34 rfl ?_
      refine mf_ishl dX12_wanting_36 ?_
      refine mf_goto (tgt := 41) dX12_wanting_37 (by decide) ?_
      refine mf_ior dX12_wanting_41 ?_
      refine mf_istore_n [(3, .int (x1 ||| (1 <<< (x2 &&& 31)))), (0, .ref 218), (1, .int a1), (2, .int a2), (4, .int x2)] dX12_wanting_42 (Nat.le_of_ble_eq_true rfl) rfl ?_
      refine mf_iinc 4 (x2 + 1) [(4, .int (x2 + 1)), (3, .int (x1 ||| (1 <<< (x2 &&& 31)))), (0, .ref 218), (1, .int a1), (2, .int a2)] dX12_wanting_43 rfl rfl (Nat.le_of_ble_eq_true rfl) rfl ?_
      refine mf_goto (tgt := 5) dX12_wanting_46 (by decide) ?_
      refine mf_sub [2, 3, 4, 1, 0] rfl ?_
      exact h5 _ _
