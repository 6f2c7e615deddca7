set_option maxRecDepth 100000 in
set_option maxHeartbeats 4000000 in
theorem aX12_readPoints (d : Nat) (q : m_S) (hM : isM q)  : AC rI yX12_readPoints cX12_readPoints 2 (some .boolean) (d + 4) [.ref 218] q (fX12_readPoints ) := by
  refine ac_of (by decide +kernel) (Nat.le_of_ble_eq_true rfl) ?_
  unfold fX12_readPoints
  show MF rI (yX12_readPoints.cls, cX12_readPoints, 2, (some .boolean), yX12_readPoints.name, d + 4, 0, 0) 0 [(0, .ref 218)] [] q _
  refine mf_aload_n 0 dX12_readPoints_0 rfl ?_
  refine mf_getr 12 7 dX12_readPoints_1 fl_X12_37 (by decide) (by decide) rfl (mo_o hM) (mo_r7 hM) (by decide) ?_
  refine mf_iconst (v := 1) dX12_readPoints_4 rfl ?_
  refine mf_iald dX12_readPoints_5 (mo_a7 hM) (fun v1 => ?_)
  refine mf_istore_n [(1, .int v1), (0, .ref 218)] dX12_readPoints_6 (Nat.le_of_ble_eq_true rfl) rfl ?_
  refine mf_iload_n 0 dX12_readPoints_7 rfl ?_
  refine mf_bipush (v := 6) dX12_readPoints_8 (by decide) ?_
  refine mf_icmp_ne (tgt := 19) dX12_readPoints_10 (by decide) ?_ ?_
  · refine mf_aload_n 1 dX12_readPoints_19 rfl ?_
    refine mf_cVv (rest := []) [] (aX12_next (d + 1) q hM) mY_X12_next dX12_readPoints_20 ml_X12_208 (mo_o hM) rfl rfl (Nat.le_of_ble_eq_true rfl) rfl (fun _ => ?_)
    refine mf_aload_n 1 dX12_readPoints_23 rfl ?_
    refine mf_bipush (v := 53) dX12_readPoints_24 (by decide) ?_
    refine mf_iload_n 0 dX12_readPoints_26 rfl ?_
    refine mf_iadd dX12_readPoints_27 ?_
    refine mf_cVi (rest := []) [.int (53 + v1)] (aX12_fresh (d + 0) q hM (53 + v1)) mY_X12_fresh dX12_readPoints_28 ml_X12_268 (mo_o hM) rfl rfl (Nat.le_of_ble_eq_true rfl) rfl (fun v2 => ?_)
    refine mf_if_eq (tgt := 49) dX12_readPoints_31 (by decide) ?_ ?_
    · refine mf_iconst (v := 0) dX12_readPoints_49 rfl ?_
      exact mf_ireturn dX12_readPoints_50 rfl rfl ⟨rfl, rfl⟩
    · refine mf_aload_n 1 dX12_readPoints_34 rfl ?_
      refine mf_bipush (v := 41) dX12_readPoints_35 (by decide) ?_
      refine mf_aload_n 1 dX12_readPoints_37 rfl ?_
      refine mf_getr 12 7 dX12_readPoints_38 fl_X12_37 (by decide) (by decide) rfl (mo_o hM) (mo_r7 hM) (by decide) ?_
      refine mf_iconst (v := 0) dX12_readPoints_41 rfl ?_
      refine mf_iald dX12_readPoints_42 (mo_a7 hM) (fun v3 => ?_)
      refine mf_cVi (rest := []) [.int 41, .int v3] (aX12_takesName (d + 0) q hM 41 v3) mY_X12_takesName dX12_readPoints_43 ml_X12_271 (mo_o hM) rfl rfl (Nat.le_of_ble_eq_true rfl) rfl (fun v4 => ?_)
      refine mf_if_ne (tgt := 51) dX12_readPoints_46 (by decide) ?_ ?_
      · refine mf_aload_n 1 dX12_readPoints_51 rfl ?_
        refine mf_getr 12 7 dX12_readPoints_52 fl_X12_37 (by decide) (by decide) rfl (mo_o hM) (mo_r7 hM) (by decide) ?_
        refine mf_bipush (v := 20) dX12_readPoints_55 (by decide) ?_
        refine mf_iload_n 0 dX12_readPoints_57 rfl ?_
        refine mf_iadd dX12_readPoints_58 ?_
        refine mf_aload_n 1 dX12_readPoints_59 rfl ?_
        refine mf_geti 12 18 dX12_readPoints_60 fl_X12_215 (by decide) (by decide) rfl (mo_o hM) (fun v5 => ?_)
        refine mf_iast dX12_readPoints_63 (mo_a7 hM) ?_
        refine mf_aload_n 1 dX12_readPoints_64 rfl ?_
        refine mf_getr 12 7 dX12_readPoints_65 fl_X12_37 (by decide) (by decide) rfl (mo_o hM) (mo_r7 hM) (by decide) ?_
        refine mf_iconst (v := 1) dX12_readPoints_68 rfl ?_
        refine mf_dup2 dX12_readPoints_69 rfl rfl ?_
        refine mf_iald dX12_readPoints_70 (mo_a7 hM) (fun v6 => ?_)
        refine mf_iconst (v := 1) dX12_readPoints_71 rfl ?_
        refine mf_iadd dX12_readPoints_72 ?_
        refine mf_iast dX12_readPoints_73 (mo_a7 hM) ?_
        refine mf_iconst (v := 1) dX12_readPoints_74 rfl ?_
        exact mf_ireturn dX12_readPoints_75 rfl rfl ⟨rfl, rfl⟩
      · refine mf_iconst (v := 0) dX12_readPoints_49 rfl ?_
        exact mf_ireturn dX12_readPoints_50 rfl rfl ⟨rfl, rfl⟩
  · refine mf_aload_n 1 dX12_readPoints_13 rfl ?_
    refine mf_iconst (v := 4) dX12_readPoints_14 rfl ?_
    refine mf_cVi (rest := []) [.int 4] (aX12_bad (d + 2) q hM 4) mY_X12_bad dX12_readPoints_15 ml_X12_205 (mo_o hM) rfl rfl (Nat.le_of_ble_eq_true rfl) rfl (fun v7 => ?_)
    exact mf_zreturn dX12_readPoints_18 rfl ⟨rfl, rfl⟩
set_option maxRecDepth 100000 in
set_option maxHeartbeats 4000000 in
theorem aX12_readLie (d : Nat) (q : m_S) (hM : isM q) (a1 : Int32) : AC rI yX12_readLie cX12_readLie 3 (some .boolean) (d + 3) [.ref 218, .int a1] q (fX12_readLie a1) := by
  refine ac_of (by decide +kernel) (Nat.le_of_ble_eq_true rfl) ?_
  unfold fX12_readLie
  show MF rI (yX12_readLie.cls, cX12_readLie, 3, (some .boolean), yX12_readLie.name, d + 3, 0, 0) 0 [(0, .ref 218), (1, .int a1)] [] q _
  refine mf_aload_n 0 dX12_readLie_0 rfl ?_
  refine mf_bipush (v := 53) dX12_readLie_1 (by decide) ?_
  refine mf_aload_n 0 dX12_readLie_3 rfl ?_
  refine mf_getr 12 7 dX12_readLie_4 fl_X12_37 (by decide) (by decide) rfl (mo_o hM) (mo_r7 hM) (by decide) ?_
  refine mf_iconst (v := 1) dX12_readLie_7 rfl ?_
  refine mf_iald dX12_readLie_8 (mo_a7 hM) (fun v1 => ?_)
  refine mf_cVi (rest := []) [.int 53, .int v1] (aX12_looksAt (d + 0) q hM 53 v1) mY_X12_looksAt dX12_readLie_9 ml_X12_230 (mo_o hM) rfl rfl (Nat.le_of_ble_eq_true rfl) rfl (fun v2 => ?_)
  refine mf_if_ne (tgt := 17) dX12_readLie_12 (by decide) ?_ ?_
  · refine mf_aload_n 0 dX12_readLie_17 rfl ?_
    refine mf_getr 12 7 dX12_readLie_18 fl_X12_37 (by decide) (by decide) rfl (mo_o hM) (mo_r7 hM) (by decide) ?_
    refine mf_bipush (v := 20) dX12_readLie_21 (by decide) ?_
    refine mf_aload_n 0 dX12_readLie_23 rfl ?_
    refine mf_geti 12 18 dX12_readLie_24 fl_X12_215 (by decide) (by decide) rfl (mo_o hM) (fun v3 => ?_)
    refine mf_iadd dX12_readLie_27 ?_
    refine mf_iald dX12_readLie_28 (mo_a7 hM) (fun v4 => ?_)
    refine mf_aload_n 0 dX12_readLie_29 rfl ?_
    refine mf_getr 12 7 dX12_readLie_30 fl_X12_37 (by decide) (by decide) rfl (mo_o hM) (mo_r7 hM) (by decide) ?_
    refine mf_bipush (v := 26) dX12_readLie_33 (by decide) ?_
    refine mf_iload_n 1 dX12_readLie_35 rfl ?_
    refine mf_iadd dX12_readLie_36 ?_
    refine mf_iald dX12_readLie_37 (mo_a7 hM) (fun v5 => ?_)
    refine mf_jo0 (pj := 71) (lvj := [(0, .ref 218), (1, .int a1)]) (stj := []) ?_ (fun J71 hJ71 => ?_)
    · show MF rI (yX12_readLie.cls, cX12_readLie, 3, (some .boolean), yX12_readLie.name, d + 3, 0, 0) 71 [(0, .ref 218), (1, .int a1)] [] q _
      refine mf_aload_n 0 dX12_readLie_71 rfl ?_
      refine mf_getr 12 7 dX12_readLie_72 fl_X12_37 (by decide) (by decide) rfl (mo_o hM) (mo_r7 hM) (by decide) ?_
      refine mf_bipush (v := 58) dX12_readLie_75 (by decide) ?_
      refine mf_iload_n 1 dX12_readLie_77 rfl ?_
      refine mf_iadd dX12_readLie_78 ?_
      refine mf_aload_n 0 dX12_readLie_79 rfl ?_
      refine mf_geti 12 18 dX12_readLie_80 fl_X12_215 (by decide) (by decide) rfl (mo_o hM) (fun v6 => ?_)
      refine mf_iconst (v := 1) dX12_readLie_83 rfl ?_
      refine mf_iadd dX12_readLie_84 ?_
      refine mf_iast dX12_readLie_85 (mo_a7 hM) ?_
      refine mf_aload_n 0 dX12_readLie_86 rfl ?_
      refine mf_cVv (rest := []) [] (aX12_next (d + 0) q hM) mY_X12_next dX12_readLie_87 ml_X12_208 (mo_o hM) rfl rfl (Nat.le_of_ble_eq_true rfl) rfl (fun _ => ?_)
      refine mf_aload_n 0 dX12_readLie_90 rfl ?_
      refine mf_ldc2 dX12_readLie_91 cl_X12_122 ?_
      refine mf_cVi (rest := []) [.long 32199706527560549] (aX12_isWord (d + 1) q hM 32199706527560549) mY_X12_isWord dX12_readLie_94 ml_X12_233 (mo_o hM) rfl rfl (Nat.le_of_ble_eq_true rfl) rfl (fun v7 => ?_)
      refine mf_istore_n [(2, .int v7), (0, .ref 218), (1, .int a1)] dX12_readLie_97 (Nat.le_of_ble_eq_true rfl) rfl ?_
      refine mf_iload_n 0 dX12_readLie_98 rfl ?_
      refine mf_jo0 (pj := 118) (lvj := [(0, .ref 218), (1, .int a1), (2, .int v7)]) (stj := []) ?_ (fun J118 hJ118 => ?_)
      · show MF rI (yX12_readLie.cls, cX12_readLie, 3, (some .boolean), yX12_readLie.name, d + 3, 0, 0) 118 [(0, .ref 218), (1, .int a1), (2, .int v7)] [] q _
        refine mf_aload_n 0 dX12_readLie_118 rfl ?_
        refine mf_getr 12 7 dX12_readLie_119 fl_X12_37 (by decide) (by decide) rfl (mo_o hM) (mo_r7 hM) (by decide) ?_
        refine mf_bipush (v := 74) dX12_readLie_122 (by decide) ?_
        refine mf_iload_n 1 dX12_readLie_124 rfl ?_
        refine mf_iadd dX12_readLie_125 ?_
        refine mf_iload_n 2 dX12_readLie_126 rfl ?_
        refine mf_if_eq (tgt := 134) dX12_readLie_127 (by decide) ?_ ?_
        · refine mf_iconst (v := 0) dX12_readLie_134 rfl ?_
          refine mf_iast dX12_readLie_135 (mo_a7 hM) ?_
          refine mf_aload_n 0 dX12_readLie_136 rfl ?_
          refine mf_cVv (rest := []) [] (aX12_next (d + 0) q hM) mY_X12_next dX12_readLie_137 ml_X12_208 (mo_o hM) rfl rfl (Nat.le_of_ble_eq_true rfl) rfl (fun _ => ?_)
          refine mf_iconst (v := 1) dX12_readLie_140 rfl ?_
          exact mf_ireturn dX12_readLie_141 rfl rfl ⟨rfl, rfl⟩
        · refine mf_iconst (v := 1) dX12_readLie_130 rfl ?_
          refine mf_goto (tgt := 135) dX12_readLie_131 (by decide) ?_
          refine mf_iast dX12_readLie_135 (mo_a7 hM) ?_
          refine mf_aload_n 0 dX12_readLie_136 rfl ?_
          refine mf_cVv (rest := []) [] (aX12_next (d + 0) q hM) mY_X12_next dX12_readLie_137 ml_X12_208 (mo_o hM) rfl rfl (Nat.le_of_ble_eq_true rfl) rfl (fun _ => ?_)
          refine mf_iconst (v := 1) dX12_readLie_140 rfl ?_
          exact mf_ireturn dX12_readLie_141 rfl rfl ⟨rfl, rfl⟩
      refine mf_if_ne (tgt := 118) dX12_readLie_99 (by decide) ?_ ?_
      · refine mf_sub [1, 2, 0] rfl ?_
        exact hJ118
      · refine mf_aload_n 1 dX12_readLie_102 rfl ?_
        refine mf_ldc2 dX12_readLie_103 cl_X12_120 ?_
        refine mf_cVi (rest := []) [.long 121424940196204] (aX12_isWord (d + 1) q hM 121424940196204) mY_X12_isWord dX12_readLie_106 ml_X12_233 (mo_o hM) rfl rfl (Nat.le_of_ble_eq_true rfl) rfl (fun v8 => ?_)
        refine mf_if_ne (tgt := 118) dX12_readLie_109 (by decide) ?_ ?_
        · refine mf_sub [1, 2, 0] rfl ?_
          exact hJ118
        · refine mf_aload_n 1 dX12_readLie_112 rfl ?_
          refine mf_iconst (v := 1) dX12_readLie_113 rfl ?_
          refine mf_cVi (rest := []) [.int 1] (aX12_bad (d + 1) q hM 1) mY_X12_bad dX12_readLie_114 ml_X12_205 (mo_o hM) rfl rfl (Nat.le_of_ble_eq_true rfl) rfl (fun v9 => ?_)
          exact mf_zreturn dX12_readLie_117 rfl ⟨rfl, rfl⟩
    refine mf_icmp_eq (tgt := 71) dX12_readLie_38 (by decide) ?_ ?_
    · exact hJ71
    · refine mf_aload_n 0 dX12_readLie_41 rfl ?_
      refine mf_getr 12 7 dX12_readLie_42 fl_X12_37 (by decide) (by decide) rfl (mo_o hM) (mo_r7 hM) (by decide) ?_
      refine mf_bipush (v := 20) dX12_readLie_45 (by decide) ?_
      refine mf_aload_n 0 dX12_readLie_47 rfl ?_
      refine mf_geti 12 18 dX12_readLie_48 fl_X12_215 (by decide) (by decide) rfl (mo_o hM) (fun v10 => ?_)
      refine mf_iadd dX12_readLie_51 ?_
      refine mf_iald dX12_readLie_52 (mo_a7 hM) (fun v11 => ?_)
      refine mf_aload_n 0 dX12_readLie_53 rfl ?_
      refine mf_getr 12 7 dX12_readLie_54 fl_X12_37 (by decide) (by decide) rfl (mo_o hM) (mo_r7 hM) (by decide) ?_
      refine mf_bipush (v := 42) dX12_readLie_57 (by decide) ?_
      refine mf_iload_n 1 dX12_readLie_59 rfl ?_
      refine mf_iadd dX12_readLie_60 ?_
      refine mf_iald dX12_readLie_61 (mo_a7 hM) (fun v12 => ?_)
      refine mf_icmp_eq (tgt := 71) dX12_readLie_62 (by decide) ?_ ?_
      · exact hJ71
      · refine mf_aload_n 0 dX12_readLie_65 rfl ?_
        refine mf_iconst (v := 3) dX12_readLie_66 rfl ?_
        refine mf_cVi (rest := []) [.int 3] (aX12_bad (d + 1) q hM 3) mY_X12_bad dX12_readLie_67 ml_X12_205 (mo_o hM) rfl rfl (Nat.le_of_ble_eq_true rfl) rfl (fun v13 => ?_)
        exact mf_zreturn dX12_readLie_70 rfl ⟨rfl, rfl⟩
  · refine mf_iconst (v := 0) dX12_readLie_15 rfl ?_
    exact mf_ireturn dX12_readLie_16 rfl rfl ⟨rfl, rfl⟩
set_option maxRecDepth 100000 in
set_option maxHeartbeats 4000000 in
theorem aX12_readTrack (d : Nat) (q : m_S) (hM : isM q)  : AC rI yX12_readTrack cX12_readTrack 5 (some .boolean) (d + 4) [.ref 218] q (fX12_readTrack ) := by
  refine ac_of (by decide +kernel) (Nat.le_of_ble_eq_true rfl) ?_
  unfold fX12_readTrack
  show MF rI (yX12_readTrack.cls, cX12_readTrack, 5, (some .boolean), yX12_readTrack.name, d + 4, 0, 0) 0 [(0, .ref 218)] [] q _
  refine mf_aload_n 0 dX12_readTrack_0 rfl ?_
  refine mf_getr 12 7 dX12_readTrack_1 fl_X12_37 (by decide) (by decide) rfl (mo_o hM) (mo_r7 hM) (by decide) ?_
  refine mf_iconst (v := 2) dX12_readTrack_4 rfl ?_
  refine mf_iald dX12_readTrack_5 (mo_a7 hM) (fun v1 => ?_)
  refine mf_istore_n [(1, .int v1), (0, .ref 218)] dX12_readTrack_6 (Nat.le_of_ble_eq_true rfl) rfl ?_
  refine mf_iload_n 0 dX12_readTrack_7 rfl ?_
  refine mf_bipush (v := 16) dX12_readTrack_8 (by decide) ?_
  refine mf_icmp_ne (tgt := 19) dX12_readTrack_10 (by decide) ?_ ?_
  · refine mf_aload_n 1 dX12_readTrack_19 rfl ?_
    refine mf_cVv (rest := []) [] (aX12_next (d + 1) q hM) mY_X12_next dX12_readTrack_20 ml_X12_208 (mo_o hM) rfl rfl (Nat.le_of_ble_eq_true rfl) rfl (fun _ => ?_)
    refine mf_aload_n 1 dX12_readTrack_23 rfl ?_
    refine mf_bipush (v := 41) dX12_readTrack_24 (by decide) ?_
    refine mf_aload_n 1 dX12_readTrack_26 rfl ?_
    refine mf_getr 12 7 dX12_readTrack_27 fl_X12_37 (by decide) (by decide) rfl (mo_o hM) (mo_r7 hM) (by decide) ?_
    refine mf_iconst (v := 0) dX12_readTrack_30 rfl ?_
    refine mf_iald dX12_readTrack_31 (mo_a7 hM) (fun v2 => ?_)
    refine mf_cVi (rest := []) [.int 41, .int v2] (aX12_takesName (d + 0) q hM 41 v2) mY_X12_takesName dX12_readTrack_32 ml_X12_271 (mo_o hM) rfl rfl (Nat.le_of_ble_eq_true rfl) rfl (fun v3 => ?_)
    refine mf_if_ne (tgt := 40) dX12_readTrack_35 (by decide) ?_ ?_
    · refine mf_aload_n 1 dX12_readTrack_40 rfl ?_
      refine mf_geti 12 18 dX12_readTrack_41 fl_X12_215 (by decide) (by decide) rfl (mo_o hM) (fun v4 => ?_)
      refine mf_istore_n [(2, .int v4), (1, .int v1), (0, .ref 218)] dX12_readTrack_44 (Nat.le_of_ble_eq_true rfl) rfl ?_
      refine mf_aload_n 2 dX12_readTrack_45 rfl ?_
      refine mf_bipush (v := 41) dX12_readTrack_46 (by decide) ?_
      refine mf_aload_n 2 dX12_readTrack_48 rfl ?_
      refine mf_getr 12 7 dX12_readTrack_49 fl_X12_37 (by decide) (by decide) rfl (mo_o hM) (mo_r7 hM) (by decide) ?_
      refine mf_iconst (v := 0) dX12_readTrack_52 rfl ?_
      refine mf_iald dX12_readTrack_53 (mo_a7 hM) (fun v5 => ?_)
      refine mf_cVi (rest := []) [.int 41, .int v5] (aX12_looksAt (d + 1) q hM 41 v5) mY_X12_looksAt dX12_readTrack_54 ml_X12_230 (mo_o hM) rfl rfl (Nat.le_of_ble_eq_true rfl) rfl (fun v6 => ?_)
      refine mf_if_ne (tgt := 62) dX12_readTrack_57 (by decide) ?_ ?_
      · refine mf_aload_n 2 dX12_readTrack_62 rfl ?_
        refine mf_geti 12 18 dX12_readTrack_63 fl_X12_215 (by decide) (by decide) rfl (mo_o hM) (fun v7 => ?_)
        refine mf_iload_n 0 dX12_readTrack_66 rfl ?_
        refine mf_jo1 (pj := 75) (lvj := fun w8 => [(0, .ref 218), (1, .int v1), (2, .int v4)]) (stj := fun w8 => [.int w8]) (fun w8 => ?_) (fun J75 hJ75 => ?_)
        · show MF rI (yX12_readTrack.cls, cX12_readTrack, 5, (some .boolean), yX12_readTrack.name, d + 4, 0, 0) 75 [(0, .ref 218), (1, .int v1), (2, .int v4)] [.int w8] q _
          refine mf_istore_n [(3, .int w8), (0, .ref 218), (1, .int v1), (2, .int v4)] dX12_readTrack_75 (Nat.le_of_ble_eq_true rfl) rfl ?_
          refine mf_iconst (v := 0) dX12_readTrack_76 rfl ?_
          refine mf_istore [(4, .int 0), (3, .int w8), (0, .ref 218), (1, .int v1), (2, .int v4)] dX12_readTrack_77 (Nat.le_of_ble_eq_true rfl) rfl ?_
          refine mf_sub [2, 3, 4, 1, 0] rfl ?_
          refine mf_lz2 (lv := fun x9 x10 => [(0, .ref 218), (1, .int v1), (2, .int v4), (3, .int x9), (4, .int x10)]) (fun L79 h79 x9 x10 => ?_) _ _ _
          show MF rI (yX12_readTrack.cls, cX12_readTrack, 5, (some .boolean), yX12_readTrack.name, d + 4, 0, 0) 79 [(0, .ref 218), (1, .int v1), (2, .int v4), (3, .int x9), (4, .int x10)] [] q _
          refine mf_iload 4 dX12_readTrack_79 rfl ?_
          refine mf_iload_n 1 dX12_readTrack_81 rfl ?_
          refine mf_icmp_ge (tgt := 163) dX12_readTrack_82 (by decide) ?_ ?_
          · refine mf_iload_n 3 dX12_readTrack_163 rfl ?_
            refine mf_if_eq (tgt := 173) dX12_readTrack_164 (by decide) ?_ ?_
            · refine mf_aload_n 0 dX12_readTrack_173 rfl ?_
              refine mf_getr 12 7 dX12_readTrack_174 fl_X12_37 (by decide) (by decide) rfl (mo_o hM) (mo_r7 hM) (by decide) ?_
              refine mf_bipush (v := 26) dX12_readTrack_177 (by decide) ?_
              refine mf_iload_n 1 dX12_readTrack_179 rfl ?_
              refine mf_iadd dX12_readTrack_180 ?_
              refine mf_iload_n 2 dX12_readTrack_181 rfl ?_
              refine mf_iast dX12_readTrack_182 (mo_a7 hM) ?_
              refine mf_aload_n 0 dX12_readTrack_183 rfl ?_
              refine mf_getr 12 7 dX12_readTrack_184 fl_X12_37 (by decide) (by decide) rfl (mo_o hM) (mo_r7 hM) (by decide) ?_
              refine mf_bipush (v := 42) dX12_readTrack_187 (by decide) ?_
              refine mf_iload_n 1 dX12_readTrack_189 rfl ?_
              refine mf_iadd dX12_readTrack_190 ?_
              refine mf_aload_n 0 dX12_readTrack_191 rfl ?_
              refine mf_geti 12 18 dX12_readTrack_192 fl_X12_215 (by decide) (by decide) rfl (mo_o hM) (fun v11 => ?_)
              refine mf_iast dX12_readTrack_195 (mo_a7 hM) ?_
              refine mf_aload_n 0 dX12_readTrack_196 rfl ?_
              refine mf_getr 12 7 dX12_readTrack_197 fl_X12_37 (by decide) (by decide) rfl (mo_o hM) (mo_r7 hM) (by decide) ?_
              refine mf_bipush (v := 58) dX12_readTrack_200 (by decide) ?_
              refine mf_iload_n 1 dX12_readTrack_202 rfl ?_
              refine mf_iadd dX12_readTrack_203 ?_
              refine mf_iconst (v := 0) dX12_readTrack_204 rfl ?_
              refine mf_iast dX12_readTrack_205 (mo_a7 hM) ?_
              refine mf_aload_n 0 dX12_readTrack_206 rfl ?_
              refine mf_getr 12 7 dX12_readTrack_207 fl_X12_37 (by decide) (by decide) rfl (mo_o hM) (mo_r7 hM) (by decide) ?_
              refine mf_bipush (v := 74) dX12_readTrack_210 (by decide) ?_
              refine mf_iload_n 1 dX12_readTrack_212 rfl ?_
              refine mf_iadd dX12_readTrack_213 ?_
              refine mf_iconst (v := 0) dX12_readTrack_214 rfl ?_
              refine mf_iast dX12_readTrack_215 (mo_a7 hM) ?_
              refine mf_aload_n 0 dX12_readTrack_216 rfl ?_
              refine mf_cVv (rest := []) [] (aX12_next (d + 1) q hM) mY_X12_next dX12_readTrack_217 ml_X12_208 (mo_o hM) rfl rfl (Nat.le_of_ble_eq_true rfl) rfl (fun _ => ?_)
              refine mf_aload_n 0 dX12_readTrack_220 rfl ?_
              refine mf_geti 12 11 dX12_readTrack_221 fl_X12_179 (by decide) (by decide) rfl (mo_o hM) (fun v12 => ?_)
              refine mf_iconst (v := 1) dX12_readTrack_224 rfl ?_
              refine mf_icmp_ne (tgt := 238) dX12_readTrack_225 (by decide) ?_ ?_
              · refine mf_aload_n 0 dX12_readTrack_238 rfl ?_
                refine mf_getr 12 7 dX12_readTrack_239 fl_X12_37 (by decide) (by decide) rfl (mo_o hM) (mo_r7 hM) (by decide) ?_
                refine mf_iconst (v := 2) dX12_readTrack_242 rfl ?_
                refine mf_dup2 dX12_readTrack_243 rfl rfl ?_
                refine mf_iald dX12_readTrack_244 (mo_a7 hM) (fun v13 => ?_)
                refine mf_iconst (v := 1) dX12_readTrack_245 rfl ?_
                refine mf_iadd dX12_readTrack_246 ?_
                refine mf_iast dX12_readTrack_247 (mo_a7 hM) ?_
                refine mf_iconst (v := 1) dX12_readTrack_248 rfl ?_
                exact mf_ireturn dX12_readTrack_249 rfl rfl ⟨rfl, rfl⟩
              · refine mf_aload_n 0 dX12_readTrack_228 rfl ?_
                refine mf_iload_n 1 dX12_readTrack_229 rfl ?_
                refine mf_cVi (rest := []) [.int v1] (aX12_readLie (d + 0) q hM v1) mY_X12_readLie dX12_readTrack_230 ml_X12_274 (mo_o hM) rfl rfl (Nat.le_of_ble_eq_true rfl) rfl (fun v14 => ?_)
                refine mf_if_ne (tgt := 238) dX12_readTrack_233 (by decide) ?_ ?_
                · refine mf_aload_n 0 dX12_readTrack_238 rfl ?_
                  refine mf_getr 12 7 dX12_readTrack_239 fl_X12_37 (by decide) (by decide) rfl (mo_o hM) (mo_r7 hM) (by decide) ?_
                  refine mf_iconst (v := 2) dX12_readTrack_242 rfl ?_
                  refine mf_dup2 dX12_readTrack_243 rfl rfl ?_
                  refine mf_iald dX12_readTrack_244 (mo_a7 hM) (fun v15 => ?_)
                  refine mf_iconst (v := 1) dX12_readTrack_245 rfl ?_
                  refine mf_iadd dX12_readTrack_246 ?_
                  refine mf_iast dX12_readTrack_247 (mo_a7 hM) ?_
                  refine mf_iconst (v := 1) dX12_readTrack_248 rfl ?_
                  exact mf_ireturn dX12_readTrack_249 rfl rfl ⟨rfl, rfl⟩
                · refine mf_iconst (v := 0) dX12_readTrack_236 rfl ?_
                  exact mf_ireturn dX12_readTrack_237 rfl rfl ⟨rfl, rfl⟩
            · refine mf_aload_n 0 dX12_readTrack_167 rfl ?_
              refine mf_iconst (v := 3) dX12_readTrack_168 rfl ?_
              refine mf_cVi (rest := []) [.int 3] (aX12_bad (d + 2) q hM 3) mY_X12_bad dX12_readTrack_169 ml_X12_205 (mo_o hM) rfl rfl (Nat.le_of_ble_eq_true rfl) rfl (fun v16 => ?_)
              exact mf_zreturn dX12_readTrack_172 rfl ⟨rfl, rfl⟩
          · refine mf_iload_n 3 dX12_readTrack_85 rfl ?_
            refine mf_if_ne (tgt := 151) dX12_readTrack_86 (by decide) ?_ ?_
            · refine mf_iconst (v := 1) dX12_readTrack_151 rfl ?_
              refine mf_goto (tgt := 156) dX12_readTrack_152 (by decide) ?_
              refine mf_istore_n [(3, .int 1), (0, .ref 218), (1, .int v1), (2, .int v4), (4, .int x10)] dX12_readTrack_156 (Nat.le_of_ble_eq_true rfl) rfl ?_
              refine mf_iinc 4 (x10 + 1) [(4, .int (x10 + 1)), (3, .int 1), (0, .ref 218), (1, .int v1), (2, .int v4)] dX12_readTrack_157 rfl rfl (Nat.le_of_ble_eq_true rfl) rfl ?_
              refine mf_goto (tgt := 79) dX12_readTrack_160 (by decide) ?_
              refine mf_sub [2, 3, 4, 1, 0] rfl ?_
              exact h79 _ _
            · refine mf_aload_n 0 dX12_readTrack_89 rfl ?_
              refine mf_getr 12 7 dX12_readTrack_90 fl_X12_37 (by decide) (by decide) rfl (mo_o hM) (mo_r7 hM) (by decide) ?_
              refine mf_bipush (v := 26) dX12_readTrack_93 (by decide) ?_
              refine mf_iload 4 dX12_readTrack_95 rfl ?_
              refine mf_iadd dX12_readTrack_97 ?_
              refine mf_iald dX12_readTrack_98 (mo_a7 hM) (fun v17 => ?_)
              refine mf_iload_n 2 dX12_readTrack_99 rfl ?_
              refine mf_jo0 (pj := 120) (lvj := [(0, .ref 218), (1, .int v1), (2, .int v4), (4, .int x10)]) (stj := []) ?_ (fun J120 hJ120 => ?_)
              · show MF rI (yX12_readTrack.cls, cX12_readTrack, 5, (some .boolean), yX12_readTrack.name, d + 4, 0, 0) 120 [(0, .ref 218), (1, .int v1), (2, .int v4), (4, .int x10)] [] q _
                refine mf_aload_n 0 dX12_readTrack_120 rfl ?_
                refine mf_getr 12 7 dX12_readTrack_121 fl_X12_37 (by decide) (by decide) rfl (mo_o hM) (mo_r7 hM) (by decide) ?_
                refine mf_bipush (v := 26) dX12_readTrack_124 (by decide) ?_
                refine mf_iload 3 dX12_readTrack_126 rfl ?_
                refine mf_iadd dX12_readTrack_128 ?_
                refine mf_iald dX12_readTrack_129 (mo_a7 hM) (fun v18 => ?_)
                refine mf_aload_n 0 dX12_readTrack_130 rfl ?_
                refine mf_geti 12 18 dX12_readTrack_131 fl_X12_215 (by decide) (by decide) rfl (mo_o hM) (fun v19 => ?_)
                refine mf_icmp_ne (tgt := 155) dX12_readTrack_134 (by decide) ?_ ?_
                · refine mf_iconst (v := 0) dX12_readTrack_155 rfl ?_
                  refine mf_istore_n [(3, .int 0), (0, .ref 218), (1, .int v1), (2, .int v4), (4, .int x10)] dX12_readTrack_156 (Nat.le_of_ble_eq_true rfl) rfl ?_
                  refine mf_iinc 4 (x10 + 1) [(4, .int (x10 + 1)), (3, .int 0), (0, .ref 218), (1, .int v1), (2, .int v4)] dX12_readTrack_157 rfl rfl (Nat.le_of_ble_eq_true rfl) rfl ?_
                  refine mf_goto (tgt := 79) dX12_readTrack_160 (by decide) ?_
                  refine mf_sub [2, 3, 4, 1, 0] rfl ?_
                  exact h79 _ _
                · refine mf_aload_n 0 dX12_readTrack_137 rfl ?_
                  refine mf_getr 12 7 dX12_readTrack_138 fl_X12_37 (by decide) (by decide) rfl (mo_o hM) (mo_r7 hM) (by decide) ?_
                  refine mf_bipush (v := 42) dX12_readTrack_141 (by decide) ?_
                  refine mf_iload 3 dX12_readTrack_143 rfl ?_
                  refine mf_iadd dX12_readTrack_145 ?_
                  refine mf_iald dX12_readTrack_146 (mo_a7 hM) (fun v20 => ?_)
                  refine mf_iload_n 2 dX12_readTrack_147 rfl ?_
                  refine mf_icmp_ne (tgt := 155) dX12_readTrack_148 (by decide) ?_ ?_
                  · refine mf_iconst (v := 0) dX12_readTrack_155 rfl ?_
                    refine mf_istore_n [(3, .int 0), (0, .ref 218), (1, .int v1), (2, .int v4), (4, .int x10)] dX12_readTrack_156 (Nat.le_of_ble_eq_true rfl) rfl ?_
                    refine mf_iinc 4 (x10 + 1) [(4, .int (x10 + 1)), (3, .int 0), (0, .ref 218), (1, .int v1), (2, .int v4)] dX12_readTrack_157 rfl rfl (Nat.le_of_ble_eq_true rfl) rfl ?_
                    refine mf_goto (tgt := 79) dX12_readTrack_160 (by decide) ?_
                    refine mf_sub [2, 3, 4, 1, 0] rfl ?_
                    exact h79 _ _
                  · refine mf_iconst (v := 1) dX12_readTrack_151 rfl ?_
                    refine mf_goto (tgt := 156) dX12_readTrack_152 (by decide) ?_
                    refine mf_istore_n [(3, .int 1), (0, .ref 218), (1, .int v1), (2, .int v4), (4, .int x10)] dX12_readTrack_156 (Nat.le_of_ble_eq_true rfl) rfl ?_
                    refine mf_iinc 4 (x10 + 1) [(4, .int (x10 + 1)), (3, .int 1), (0, .ref 218), (1, .int v1), (2, .int v4)] dX12_readTrack_157 rfl rfl (Nat.le_of_ble_eq_true rfl) rfl ?_
                    refine mf_goto (tgt := 79) dX12_readTrack_160 (by decide) ?_
                    refine mf_sub [2, 3, 4, 1, 0] rfl ?_
                    exact h79 _ _
              refine mf_icmp_ne (tgt := 120) dX12_readTrack_100 (by decide) ?_ ?_
              · refine mf_sub [0, 1, 2, 4] rfl ?_
                exact hJ120
              · refine mf_aload_n 0 dX12_readTrack_103 rfl ?_
                refine mf_getr 12 7 dX12_readTrack_104 fl_X12_37 (by decide) (by decide) rfl (mo_o hM) (mo_r7 hM) (by decide) ?_
                refine mf_bipush (v := 42) dX12_readTrack_107 (by decide) ?_
                refine mf_iload 4 dX12_readTrack_109 rfl ?_
                refine mf_iadd dX12_readTrack_111 ?_
                refine mf_iald dX12_readTrack_112 (mo_a7 hM) (fun v21 => ?_)
                refine mf_aload_n 0 dX12_readTrack_113 rfl ?_
                refine mf_geti 12 18 dX12_readTrack_114 fl_X12_215 (by decide) (by decide) rfl (mo_o hM) (fun v22 => ?_)
                refine mf_icmp_eq (tgt := 151) dX12_readTrack_117 (by decide) ?_ ?_
                · refine mf_iconst (v := 1) dX12_readTrack_151 rfl ?_
                  refine mf_goto (tgt := 156) dX12_readTrack_152 (by decide) ?_
                  refine mf_istore_n [(3, .int 1), (0, .ref 218), (1, .int v1), (2, .int v4), (4, .int x10)] dX12_readTrack_156 (Nat.le_of_ble_eq_true rfl) rfl ?_
                  refine mf_iinc 4 (x10 + 1) [(4, .int (x10 + 1)), (3, .int 1), (0, .ref 218), (1, .int v1), (2, .int v4)] dX12_readTrack_157 rfl rfl (Nat.le_of_ble_eq_true rfl) rfl ?_
                  refine mf_goto (tgt := 79) dX12_readTrack_160 (by decide) ?_
                  refine mf_sub [2, 3, 4, 1, 0] rfl ?_
                  exact h79 _ _
                · refine mf_sub [0, 1, 2, 4] rfl ?_
                  exact hJ120
        refine mf_icmp_ne (tgt := 74) dX12_readTrack_67 (by decide) ?_ ?_
        · refine mf_iconst (v := 0) dX12_readTrack_74 rfl ?_
          refine mf_sub [2, 1, 0] rfl ?_
          exact hJ75 _
        · refine mf_iconst (v := 1) dX12_readTrack_70 rfl ?_
          refine mf_goto (tgt := 75) dX12_readTrack_71 (by decide) ?_
          refine mf_sub [2, 1, 0] rfl ?_
          exact hJ75 _
      · refine mf_iconst (v := 0) dX12_readTrack_60 rfl ?_
        exact mf_ireturn dX12_readTrack_61 rfl rfl ⟨rfl, rfl⟩
    · refine mf_iconst (v := 0) dX12_readTrack_38 rfl ?_
      exact mf_ireturn dX12_readTrack_39 rfl rfl ⟨rfl, rfl⟩
  · refine mf_aload_n 1 dX12_readTrack_13 rfl ?_
    refine mf_iconst (v := 4) dX12_readTrack_14 rfl ?_
    refine mf_cVi (rest := []) [.int 4] (aX12_bad (d + 2) q hM 4) mY_X12_bad dX12_readTrack_15 ml_X12_205 (mo_o hM) rfl rfl (Nat.le_of_ble_eq_true rfl) rfl (fun v23 => ?_)
    exact mf_zreturn dX12_readTrack_18 rfl ⟨rfl, rfl⟩
set_option maxRecDepth 100000 in
set_option maxHeartbeats 4000000 in
theorem aX12_wayWord (d : Nat) (q : m_S) (hM : isM q)  : AC rI yX12_wayWord cX12_wayWord 1 (some .int) (d + 2) [.ref 218] q (fX12_wayWord ) := by
  refine ac_of (by decide +kernel) (Nat.le_of_ble_eq_true rfl) ?_
  unfold fX12_wayWord
  show MF rI (yX12_wayWord.cls, cX12_wayWord, 1, (some .int), yX12_wayWord.name, d + 2, 0, 0) 0 [(0, .ref 218)] [] q _
  refine mf_aload_n 0 dX12_wayWord_0 rfl ?_
  refine mf_ldc2 dX12_wayWord_1 cl_X12_124 ?_
  refine mf_cVi (rest := []) [.long 1685026670] (aX12_isWord (d + 0) q hM 1685026670) mY_X12_isWord dX12_wayWord_4 ml_X12_233 (mo_o hM) rfl rfl (Nat.le_of_ble_eq_true rfl) rfl (fun v1 => ?_)
  refine mf_if_eq (tgt := 14) dX12_wayWord_7 (by decide) ?_ ?_
  · refine mf_aload_n 0 dX12_wayWord_14 rfl ?_
    refine mf_ldc2 dX12_wayWord_15 cl_X12_126 ?_
    refine mf_cVi (rest := []) [.long 30064] (aX12_isWord (d + 0) q hM 30064) mY_X12_isWord dX12_wayWord_18 ml_X12_233 (mo_o hM) rfl rfl (Nat.le_of_ble_eq_true rfl) rfl (fun v2 => ?_)
    refine mf_if_eq (tgt := 28) dX12_wayWord_21 (by decide) ?_ ?_
    · refine mf_iconst (v := -1) dX12_wayWord_28 rfl ?_
      exact mf_ireturn dX12_wayWord_29 rfl rfl ⟨rfl, rfl⟩
    · refine mf_iconst (v := 1) dX12_wayWord_24 rfl ?_
      refine mf_goto (tgt := 29) dX12_wayWord_25 (by decide) ?_
      exact mf_ireturn dX12_wayWord_29 rfl rfl ⟨rfl, rfl⟩
  · refine mf_iconst (v := 0) dX12_wayWord_10 rfl ?_
    refine mf_goto (tgt := 29) dX12_wayWord_11 (by decide) ?_
    exact mf_ireturn dX12_wayWord_29 rfl rfl ⟨rfl, rfl⟩
set_option maxRecDepth 100000 in
set_option maxHeartbeats 4000000 in
theorem aX12_readSignal (d : Nat) (q : m_S) (hM : isM q)  : AC rI yX12_readSignal cX12_readSignal 5 (some .boolean) (d + 4) [.ref 218] q (fX12_readSignal ) := by
  refine ac_of (by decide +kernel) (Nat.le_of_ble_eq_true rfl) ?_
  unfold fX12_readSignal
  show MF rI (yX12_readSignal.cls, cX12_readSignal, 5, (some .boolean), yX12_readSignal.name, d + 4, 0, 0) 0 [(0, .ref 218)] [] q _
  refine mf_aload_n 0 dX12_readSignal_0 rfl ?_
  refine mf_getr 12 7 dX12_readSignal_1 fl_X12_37 (by decide) (by decide) rfl (mo_o hM) (mo_r7 hM) (by decide) ?_
  refine mf_iconst (v := 3) dX12_readSignal_4 rfl ?_
  refine mf_iald dX12_readSignal_5 (mo_a7 hM) (fun v1 => ?_)
  refine mf_istore_n [(1, .int v1), (0, .ref 218)] dX12_readSignal_6 (Nat.le_of_ble_eq_true rfl) rfl ?_
  refine mf_iload_n 0 dX12_readSignal_7 rfl ?_
  refine mf_bipush (v := 8) dX12_readSignal_8 (by decide) ?_
  refine mf_icmp_ne (tgt := 19) dX12_readSignal_10 (by decide) ?_ ?_
  · refine mf_aload_n 1 dX12_readSignal_19 rfl ?_
    refine mf_cVv (rest := []) [] (aX12_next (d + 1) q hM) mY_X12_next dX12_readSignal_20 ml_X12_208 (mo_o hM) rfl rfl (Nat.le_of_ble_eq_true rfl) rfl (fun _ => ?_)
    refine mf_aload_n 1 dX12_readSignal_23 rfl ?_
    refine mf_bipush (v := 59) dX12_readSignal_24 (by decide) ?_
    refine mf_iload_n 0 dX12_readSignal_26 rfl ?_
    refine mf_iadd dX12_readSignal_27 ?_
    refine mf_cVi (rest := []) [.int (59 + v1)] (aX12_fresh (d + 0) q hM (59 + v1)) mY_X12_fresh dX12_readSignal_28 ml_X12_268 (mo_o hM) rfl rfl (Nat.le_of_ble_eq_true rfl) rfl (fun v2 => ?_)
    refine mf_if_eq (tgt := 49) dX12_readSignal_31 (by decide) ?_ ?_
    · refine mf_iconst (v := 0) dX12_readSignal_49 rfl ?_
      exact mf_ireturn dX12_readSignal_50 rfl rfl ⟨rfl, rfl⟩
    · refine mf_aload_n 1 dX12_readSignal_34 rfl ?_
      refine mf_bipush (v := 41) dX12_readSignal_35 (by decide) ?_
      refine mf_aload_n 1 dX12_readSignal_37 rfl ?_
      refine mf_getr 12 7 dX12_readSignal_38 fl_X12_37 (by decide) (by decide) rfl (mo_o hM) (mo_r7 hM) (by decide) ?_
      refine mf_iconst (v := 0) dX12_readSignal_41 rfl ?_
      refine mf_iald dX12_readSignal_42 (mo_a7 hM) (fun v3 => ?_)
      refine mf_cVi (rest := []) [.int 41, .int v3] (aX12_takesName (d + 0) q hM 41 v3) mY_X12_takesName dX12_readSignal_43 ml_X12_271 (mo_o hM) rfl rfl (Nat.le_of_ble_eq_true rfl) rfl (fun v4 => ?_)
      refine mf_if_ne (tgt := 51) dX12_readSignal_46 (by decide) ?_ ?_
      · refine mf_aload_n 1 dX12_readSignal_51 rfl ?_
        refine mf_geti 12 18 dX12_readSignal_52 fl_X12_215 (by decide) (by decide) rfl (mo_o hM) (fun v5 => ?_)
        refine mf_istore_n [(2, .int v5), (1, .int v1), (0, .ref 218)] dX12_readSignal_55 (Nat.le_of_ble_eq_true rfl) rfl ?_
        refine mf_aload_n 2 dX12_readSignal_56 rfl ?_
        refine mf_cVi (rest := []) [] (aX12_wayWord (d + 1) q hM) mY_X12_wayWord dX12_readSignal_57 ml_X12_277 (mo_o hM) rfl rfl (Nat.le_of_ble_eq_true rfl) rfl (fun v6 => ?_)
        refine mf_istore_n [(3, .int v6), (2, .int v5), (1, .int v1), (0, .ref 218)] dX12_readSignal_60 (Nat.le_of_ble_eq_true rfl) rfl ?_
        refine mf_iload_n 0 dX12_readSignal_61 rfl ?_
        refine mf_if_ge (tgt := 71) dX12_readSignal_62 (by decide) ?_ ?_
        · refine mf_iconst (v := 0) dX12_readSignal_71 rfl ?_
          refine mf_istore [(4, .int 0), (3, .int v6), (2, .int v5), (1, .int v1), (0, .ref 218)] dX12_readSignal_72 (Nat.le_of_ble_eq_true rfl) rfl ?_
          refine mf_sub [4, 3, 2, 1, 0] rfl ?_
          refine mf_lz1 (lv := fun x7 => [(0, .ref 218), (1, .int v1), (2, .int v5), (3, .int v6), (4, .int x7)]) (fun L74 h74 x7 => ?_) _ _
          show MF rI (yX12_readSignal.cls, cX12_readSignal, 5, (some .boolean), yX12_readSignal.name, d + 4, 0, 0) 74 [(0, .ref 218), (1, .int v1), (2, .int v5), (3, .int v6), (4, .int x7)] [] q _
          refine mf_iload 4 dX12_readSignal_74 rfl ?_
          refine mf_iload_n 1 dX12_readSignal_76 rfl ?_
          refine mf_icmp_ge (tgt := 120) dX12_readSignal_77 (by decide) ?_ ?_
          · refine mf_aload_n 0 dX12_readSignal_120 rfl ?_
            refine mf_getr 12 7 dX12_readSignal_121 fl_X12_37 (by decide) (by decide) rfl (mo_o hM) (mo_r7 hM) (by decide) ?_
            refine mf_bipush (v := 90) dX12_readSignal_124 (by decide) ?_
            refine mf_iload_n 1 dX12_readSignal_126 rfl ?_
            refine mf_iadd dX12_readSignal_127 ?_
            refine mf_iload_n 2 dX12_readSignal_128 rfl ?_
            refine mf_iast dX12_readSignal_129 (mo_a7 hM) ?_
            refine mf_aload_n 0 dX12_readSignal_130 rfl ?_
            refine mf_getr 12 7 dX12_readSignal_131 fl_X12_37 (by decide) (by decide) rfl (mo_o hM) (mo_r7 hM) (by decide) ?_
            refine mf_bipush (v := 98) dX12_readSignal_134 (by decide) ?_
            refine mf_iload_n 1 dX12_readSignal_136 rfl ?_
            refine mf_iadd dX12_readSignal_137 ?_
            refine mf_iload_n 3 dX12_readSignal_138 rfl ?_
            refine mf_iast dX12_readSignal_139 (mo_a7 hM) ?_
            refine mf_aload_n 0 dX12_readSignal_140 rfl ?_
            refine mf_cVv (rest := []) [] (aX12_next (d + 1) q hM) mY_X12_next dX12_readSignal_141 ml_X12_208 (mo_o hM) rfl rfl (Nat.le_of_ble_eq_true rfl) rfl (fun _ => ?_)
            refine mf_aload_n 0 dX12_readSignal_144 rfl ?_
            refine mf_getr 12 7 dX12_readSignal_145 fl_X12_37 (by decide) (by decide) rfl (mo_o hM) (mo_r7 hM) (by decide) ?_
            refine mf_iconst (v := 3) dX12_readSignal_148 rfl ?_
            refine mf_dup2 dX12_readSignal_149 rfl rfl ?_
            refine mf_iald dX12_readSignal_150 (mo_a7 hM) (fun v8 => ?_)
            refine mf_iconst (v := 1) dX12_readSignal_151 rfl ?_
            refine mf_iadd dX12_readSignal_152 ?_
            refine mf_iast dX12_readSignal_153 (mo_a7 hM) ?_
            refine mf_iconst (v := 1) dX12_readSignal_154 rfl ?_
            exact mf_ireturn dX12_readSignal_155 rfl rfl ⟨rfl, rfl⟩
          · refine mf_aload_n 0 dX12_readSignal_80 rfl ?_
            refine mf_getr 12 7 dX12_readSignal_81 fl_X12_37 (by decide) (by decide) rfl (mo_o hM) (mo_r7 hM) (by decide) ?_
            refine mf_bipush (v := 90) dX12_readSignal_84 (by decide) ?_
            refine mf_iload 4 dX12_readSignal_86 rfl ?_
            refine mf_iadd dX12_readSignal_88 ?_
            refine mf_iald dX12_readSignal_89 (mo_a7 hM) (fun v9 => ?_)
            refine mf_iload_n 2 dX12_readSignal_90 rfl ?_
            refine mf_icmp_ne (tgt := 114) dX12_readSignal_91 (by decide) ?_ ?_
            · refine mf_iinc 4 (x7 + 1) [(4, .int (x7 + 1)), (0, .ref 218), (1, .int v1), (2, .int v5), (3, .int v6)] dX12_readSignal_114 rfl rfl (Nat.le_of_ble_eq_true rfl) rfl ?_
              refine mf_goto (tgt := 74) dX12_readSignal_117 (by decide) ?_
              refine mf_sub [1, 2, 3, 4, 0] rfl ?_
              exact h74 _
            · refine mf_aload_n 0 dX12_readSignal_94 rfl ?_
              refine mf_getr 12 7 dX12_readSignal_95 fl_X12_37 (by decide) (by decide) rfl (mo_o hM) (mo_r7 hM) (by decide) ?_
              refine mf_bipush (v := 98) dX12_readSignal_98 (by decide) ?_
              refine mf_iload 4 dX12_readSignal_100 rfl ?_
              refine mf_iadd dX12_readSignal_102 ?_
              refine mf_iald dX12_readSignal_103 (mo_a7 hM) (fun v10 => ?_)
              refine mf_iload_n 3 dX12_readSignal_104 rfl ?_
              refine mf_icmp_ne (tgt := 114) dX12_readSignal_105 (by decide) ?_ ?_
              · refine mf_iinc 4 (x7 + 1) [(4, .int (x7 + 1)), (0, .ref 218), (1, .int v1), (2, .int v5), (3, .int v6)] dX12_readSignal_114 rfl rfl (Nat.le_of_ble_eq_true rfl) rfl ?_
                refine mf_goto (tgt := 74) dX12_readSignal_117 (by decide) ?_
                refine mf_sub [1, 2, 3, 4, 0] rfl ?_
                exact h74 _
              · refine mf_aload_n 0 dX12_readSignal_108 rfl ?_
                refine mf_iconst (v := 3) dX12_readSignal_109 rfl ?_
                refine mf_cVi (rest := []) [.int 3] (aX12_bad (d + 2) q hM 3) mY_X12_bad dX12_readSignal_110 ml_X12_205 (mo_o hM) rfl rfl (Nat.le_of_ble_eq_true rfl) rfl (fun v11 => ?_)
                exact mf_zreturn dX12_readSignal_113 rfl ⟨rfl, rfl⟩
        · refine mf_aload_n 3 dX12_readSignal_65 rfl ?_
          refine mf_iconst (v := 1) dX12_readSignal_66 rfl ?_
          refine mf_cVi (rest := []) [.int 1] (aX12_bad (d + 2) q hM 1) mY_X12_bad dX12_readSignal_67 ml_X12_205 (mo_o hM) rfl rfl (Nat.le_of_ble_eq_true rfl) rfl (fun v12 => ?_)
          exact mf_zreturn dX12_readSignal_70 rfl ⟨rfl, rfl⟩
      · refine mf_iconst (v := 0) dX12_readSignal_49 rfl ?_
        exact mf_ireturn dX12_readSignal_50 rfl rfl ⟨rfl, rfl⟩
  · refine mf_aload_n 1 dX12_readSignal_13 rfl ?_
    refine mf_iconst (v := 4) dX12_readSignal_14 rfl ?_
    refine mf_cVi (rest := []) [.int 4] (aX12_bad (d + 2) q hM 4) mY_X12_bad dX12_readSignal_15 ml_X12_205 (mo_o hM) rfl rfl (Nat.le_of_ble_eq_true rfl) rfl (fun v13 => ?_)
    exact mf_zreturn dX12_readSignal_18 rfl ⟨rfl, rfl⟩
set_option maxRecDepth 100000 in
set_option maxHeartbeats 4000000 in
theorem aX12_readRoute (d : Nat) (q : m_S) (hM : isM q)  : AC rI yX12_readRoute cX12_readRoute 2 (some .boolean) (d + 4) [.ref 218] q (fX12_readRoute ) := by
  refine ac_of (by decide +kernel) (Nat.le_of_ble_eq_true rfl) ?_
  unfold fX12_readRoute
  show MF rI (yX12_readRoute.cls, cX12_readRoute, 2, (some .boolean), yX12_readRoute.name, d + 4, 0, 0) 0 [(0, .ref 218)] [] q _
  refine mf_aload_n 0 dX12_readRoute_0 rfl ?_
  refine mf_getr 12 7 dX12_readRoute_1 fl_X12_37 (by decide) (by decide) rfl (mo_o hM) (mo_r7 hM) (by decide) ?_
  refine mf_iconst (v := 4) dX12_readRoute_4 rfl ?_
  refine mf_iald dX12_readRoute_5 (mo_a7 hM) (fun v1 => ?_)
  refine mf_istore_n [(1, .int v1), (0, .ref 218)] dX12_readRoute_6 (Nat.le_of_ble_eq_true rfl) rfl ?_
  refine mf_iload_n 0 dX12_readRoute_7 rfl ?_
  refine mf_bipush (v := 10) dX12_readRoute_8 (by decide) ?_
  refine mf_icmp_ne (tgt := 19) dX12_readRoute_10 (by decide) ?_ ?_
  · refine mf_aload_n 1 dX12_readRoute_19 rfl ?_
    refine mf_cVv (rest := []) [] (aX12_next (d + 1) q hM) mY_X12_next dX12_readRoute_20 ml_X12_208 (mo_o hM) rfl rfl (Nat.le_of_ble_eq_true rfl) rfl (fun _ => ?_)
    refine mf_aload_n 1 dX12_readRoute_23 rfl ?_
    refine mf_bipush (v := 67) dX12_readRoute_24 (by decide) ?_
    refine mf_iload_n 0 dX12_readRoute_26 rfl ?_
    refine mf_iadd dX12_readRoute_27 ?_
    refine mf_cVi (rest := []) [.int (67 + v1)] (aX12_fresh (d + 0) q hM (67 + v1)) mY_X12_fresh dX12_readRoute_28 ml_X12_268 (mo_o hM) rfl rfl (Nat.le_of_ble_eq_true rfl) rfl (fun v2 => ?_)
    refine mf_if_eq (tgt := 49) dX12_readRoute_31 (by decide) ?_ ?_
    · refine mf_iconst (v := 0) dX12_readRoute_49 rfl ?_
      exact mf_ireturn dX12_readRoute_50 rfl rfl ⟨rfl, rfl⟩
    · refine mf_aload_n 1 dX12_readRoute_34 rfl ?_
      refine mf_bipush (v := 59) dX12_readRoute_35 (by decide) ?_
      refine mf_aload_n 1 dX12_readRoute_37 rfl ?_
      refine mf_getr 12 7 dX12_readRoute_38 fl_X12_37 (by decide) (by decide) rfl (mo_o hM) (mo_r7 hM) (by decide) ?_
      refine mf_iconst (v := 3) dX12_readRoute_41 rfl ?_
      refine mf_iald dX12_readRoute_42 (mo_a7 hM) (fun v3 => ?_)
      refine mf_cVi (rest := []) [.int 59, .int v3] (aX12_takesName (d + 0) q hM 59 v3) mY_X12_takesName dX12_readRoute_43 ml_X12_271 (mo_o hM) rfl rfl (Nat.le_of_ble_eq_true rfl) rfl (fun v4 => ?_)
      refine mf_if_ne (tgt := 51) dX12_readRoute_46 (by decide) ?_ ?_
      · refine mf_aload_n 1 dX12_readRoute_51 rfl ?_
        refine mf_getr 12 7 dX12_readRoute_52 fl_X12_37 (by decide) (by decide) rfl (mo_o hM) (mo_r7 hM) (by decide) ?_
        refine mf_bipush (v := 106) dX12_readRoute_55 (by decide) ?_
        refine mf_iload_n 0 dX12_readRoute_57 rfl ?_
        refine mf_iadd dX12_readRoute_58 ?_
        refine mf_aload_n 1 dX12_readRoute_59 rfl ?_
        refine mf_geti 12 18 dX12_readRoute_60 fl_X12_215 (by decide) (by decide) rfl (mo_o hM) (fun v5 => ?_)
        refine mf_iast dX12_readRoute_63 (mo_a7 hM) ?_
        refine mf_aload_n 1 dX12_readRoute_64 rfl ?_
        refine mf_getr 12 7 dX12_readRoute_65 fl_X12_37 (by decide) (by decide) rfl (mo_o hM) (mo_r7 hM) (by decide) ?_
        refine mf_iconst (v := 4) dX12_readRoute_68 rfl ?_
        refine mf_dup2 dX12_readRoute_69 rfl rfl ?_
        refine mf_iald dX12_readRoute_70 (mo_a7 hM) (fun v6 => ?_)
        refine mf_iconst (v := 1) dX12_readRoute_71 rfl ?_
        refine mf_iadd dX12_readRoute_72 ?_
        refine mf_iast dX12_readRoute_73 (mo_a7 hM) ?_
        refine mf_iconst (v := 1) dX12_readRoute_74 rfl ?_
        exact mf_ireturn dX12_readRoute_75 rfl rfl ⟨rfl, rfl⟩
      · refine mf_iconst (v := 0) dX12_readRoute_49 rfl ?_
        exact mf_ireturn dX12_readRoute_50 rfl rfl ⟨rfl, rfl⟩
  · refine mf_aload_n 1 dX12_readRoute_13 rfl ?_
    refine mf_iconst (v := 4) dX12_readRoute_14 rfl ?_
    refine mf_cVi (rest := []) [.int 4] (aX12_bad (d + 2) q hM 4) mY_X12_bad dX12_readRoute_15 ml_X12_205 (mo_o hM) rfl rfl (Nat.le_of_ble_eq_true rfl) rfl (fun v7 => ?_)
    exact mf_zreturn dX12_readRoute_18 rfl ⟨rfl, rfl⟩
set_option maxRecDepth 100000 in
set_option maxHeartbeats 4000000 in
theorem aX12_readOver (d : Nat) (q : m_S) (hM : isM q)  : AC rI yX12_readOver cX12_readOver 10 (some .boolean) (d + 3) [.ref 218] q (fX12_readOver ) := by
  refine ac_of (by decide +kernel) (Nat.le_of_ble_eq_true rfl) ?_
  unfold fX12_readOver
  show MF rI (yX12_readOver.cls, cX12_readOver, 10, (some .boolean), yX12_readOver.name, d + 3, 0, 0) 0 [(0, .ref 218)] [] q _
  refine mf_aload_n 0 dX12_readOver_0 rfl ?_
  refine mf_cVv (rest := []) [] (aX12_next (d + 0) q hM) mY_X12_next dX12_readOver_1 ml_X12_208 (mo_o hM) rfl rfl (Nat.le_of_ble_eq_true rfl) rfl (fun _ => ?_)
  refine mf_aload_n 0 dX12_readOver_4 rfl ?_
  refine mf_bipush (v := 67) dX12_readOver_5 (by decide) ?_
  refine mf_aload_n 0 dX12_readOver_7 rfl ?_
  refine mf_getr 12 7 dX12_readOver_8 fl_X12_37 (by decide) (by decide) rfl (mo_o hM) (mo_r7 hM) (by decide) ?_
  refine mf_iconst (v := 4) dX12_readOver_11 rfl ?_
  refine mf_iald dX12_readOver_12 (mo_a7 hM) (fun v1 => ?_)
  refine mf_cVi (rest := []) [.int 67, .int v1] (aX12_looksAt (d + 0) q hM 67 v1) mY_X12_looksAt dX12_readOver_13 ml_X12_230 (mo_o hM) rfl rfl (Nat.le_of_ble_eq_true rfl) rfl (fun v2 => ?_)
  refine mf_if_ne (tgt := 21) dX12_readOver_16 (by decide) ?_ ?_
  · refine mf_aload_n 0 dX12_readOver_21 rfl ?_
    refine mf_geti 12 18 dX12_readOver_22 fl_X12_215 (by decide) (by decide) rfl (mo_o hM) (fun v3 => ?_)
    refine mf_istore_n [(1, .int v3), (0, .ref 218)] dX12_readOver_25 (Nat.le_of_ble_eq_true rfl) rfl ?_
    refine mf_aload_n 1 dX12_readOver_26 rfl ?_
    refine mf_getr 12 7 dX12_readOver_27 fl_X12_37 (by decide) (by decide) rfl (mo_o hM) (mo_r7 hM) (by decide) ?_
    refine mf_bipush (v := 116) dX12_readOver_30 (by decide) ?_
    refine mf_iload_n 0 dX12_readOver_32 rfl ?_
    refine mf_iadd dX12_readOver_33 ?_
    refine mf_iald dX12_readOver_34 (mo_a7 hM) (fun v4 => ?_)
    refine mf_istore_n [(2, .int v4), (1, .int v3), (0, .ref 218)] dX12_readOver_35 (Nat.le_of_ble_eq_true rfl) rfl ?_
    refine mf_iload_n 0 dX12_readOver_36 rfl ?_
    refine mf_bipush (v := 6) dX12_readOver_37 (by decide) ?_
    refine mf_icmp_ne (tgt := 48) dX12_readOver_39 (by decide) ?_ ?_
    · refine mf_aload_n 2 dX12_readOver_48 rfl ?_
      refine mf_cVv (rest := []) [] (aX12_next (d + 0) q hM) mY_X12_next dX12_readOver_49 ml_X12_208 (mo_o hM) rfl rfl (Nat.le_of_ble_eq_true rfl) rfl (fun _ => ?_)
      refine mf_aload_n 2 dX12_readOver_52 rfl ?_
      refine mf_bipush (v := 41) dX12_readOver_53 (by decide) ?_
      refine mf_aload_n 2 dX12_readOver_55 rfl ?_
      refine mf_getr 12 7 dX12_readOver_56 fl_X12_37 (by decide) (by decide) rfl (mo_o hM) (mo_r7 hM) (by decide) ?_
      refine mf_iconst (v := 0) dX12_readOver_59 rfl ?_
      refine mf_iald dX12_readOver_60 (mo_a7 hM) (fun v5 => ?_)
      refine mf_cVi (rest := []) [.int 41, .int v5] (aX12_looksAt (d + 0) q hM 41 v5) mY_X12_looksAt dX12_readOver_61 ml_X12_230 (mo_o hM) rfl rfl (Nat.le_of_ble_eq_true rfl) rfl (fun v6 => ?_)
      refine mf_if_ne (tgt := 69) dX12_readOver_64 (by decide) ?_ ?_
      · refine mf_aload_n 2 dX12_readOver_69 rfl ?_
        refine mf_getr 12 7 dX12_readOver_70 fl_X12_37 (by decide) (by decide) rfl (mo_o hM) (mo_r7 hM) (by decide) ?_
        refine mf_bipush (v := 98) dX12_readOver_73 (by decide) ?_
        refine mf_aload_n 2 dX12_readOver_75 rfl ?_
        refine mf_getr 12 7 dX12_readOver_76 fl_X12_37 (by decide) (by decide) rfl (mo_o hM) (mo_r7 hM) (by decide) ?_
        refine mf_bipush (v := 106) dX12_readOver_79 (by decide) ?_
        refine mf_iload_n 1 dX12_readOver_81 rfl ?_
        refine mf_iadd dX12_readOver_82 ?_
        refine mf_iald dX12_readOver_83 (mo_a7 hM) (fun v7 => ?_)
        refine mf_iadd dX12_readOver_84 ?_
        refine mf_iald dX12_readOver_85 (mo_a7 hM) (fun v8 => ?_)
        refine mf_istore_n [(3, .int v8), (2, .int v4), (1, .int v3), (0, .ref 218)] dX12_readOver_86 (Nat.le_of_ble_eq_true rfl) rfl ?_
        refine mf_aload_n 3 dX12_readOver_87 rfl ?_
        refine mf_getr 12 7 dX12_readOver_88 fl_X12_37 (by decide) (by decide) rfl (mo_o hM) (mo_r7 hM) (by decide) ?_
        refine mf_bipush (v := 90) dX12_readOver_91 (by decide) ?_
        refine mf_aload_n 3 dX12_readOver_93 rfl ?_
        refine mf_getr 12 7 dX12_readOver_94 fl_X12_37 (by decide) (by decide) rfl (mo_o hM) (mo_r7 hM) (by decide) ?_
        refine mf_bipush (v := 106) dX12_readOver_97 (by decide) ?_
        refine mf_iload_n 2 dX12_readOver_99 rfl ?_
        refine mf_iadd dX12_readOver_100 ?_
        refine mf_iald dX12_readOver_101 (mo_a7 hM) (fun v9 => ?_)
        refine mf_iadd dX12_readOver_102 ?_
        refine mf_iald dX12_readOver_103 (mo_a7 hM) (fun v10 => ?_)
        refine mf_istore [(4, .int v10), (3, .int v8), (2, .int v4), (1, .int v3), (0, .ref 218)] dX12_readOver_104 (Nat.le_of_ble_eq_true rfl) rfl ?_
        refine mf_iload_n 2 dX12_readOver_106 rfl ?_
        refine mf_jo1 (pj := 131) (lvj := fun w11 => [(0, .ref 218), (1, .int v3), (2, .int v4), (3, .int v8), (4, .int v10)]) (stj := fun w11 => [.int w11]) (fun w11 => ?_) (fun J131 hJ131 => ?_)
        · show MF rI (yX12_readOver.cls, cX12_readOver, 10, (some .boolean), yX12_readOver.name, d + 3, 0, 0) 131 [(0, .ref 218), (1, .int v3), (2, .int v4), (3, .int v8), (4, .int v10)] [.int w11] q _
          refine mf_istore [(5, .int w11), (0, .ref 218), (1, .int v3), (2, .int v4), (3, .int v8), (4, .int v10)] dX12_readOver_131 (Nat.le_of_ble_eq_true rfl) rfl ?_
          refine mf_iconst (v := -1) dX12_readOver_133 rfl ?_
          refine mf_istore [(6, .int (-1)), (5, .int w11), (0, .ref 218), (1, .int v3), (2, .int v4), (3, .int v8), (4, .int v10)] dX12_readOver_134 (Nat.le_of_ble_eq_true rfl) rfl ?_
          refine mf_iconst (v := 0) dX12_readOver_136 rfl ?_
          refine mf_istore [(7, .int 0), (6, .int (-1)), (5, .int w11), (0, .ref 218), (1, .int v3), (2, .int v4), (3, .int v8), (4, .int v10)] dX12_readOver_137 (Nat.le_of_ble_eq_true rfl) rfl ?_
          refine mf_sub [3, 4, 5, 6, 7, 2, 1, 0] rfl ?_
          refine mf_lz2 (lv := fun x12 x13 => [(0, .ref 218), (1, .int v3), (2, .int v4), (3, .int v8), (4, .int v10), (5, .int w11), (6, .int x12), (7, .int x13)]) (fun L139 h139 x12 x13 => ?_) _ _ _
          show MF rI (yX12_readOver.cls, cX12_readOver, 10, (some .boolean), yX12_readOver.name, d + 3, 0, 0) 139 [(0, .ref 218), (1, .int v3), (2, .int v4), (3, .int v8), (4, .int v10), (5, .int w11), (6, .int x12), (7, .int x13)] [] q _
          refine mf_iload 7 dX12_readOver_139 rfl ?_
          refine mf_aload_n 0 dX12_readOver_141 rfl ?_
          refine mf_getr 12 7 dX12_readOver_142 fl_X12_37 (by decide) (by decide) rfl (mo_o hM) (mo_r7 hM) (by decide) ?_
          refine mf_iconst (v := 2) dX12_readOver_145 rfl ?_
          refine mf_iald dX12_readOver_146 (mo_a7 hM) (fun v14 => ?_)
          refine mf_icmp_ge (tgt := 212) dX12_readOver_147 (by decide) ?_ ?_
          · refine mf_iload 6 dX12_readOver_212 rfl ?_
            refine mf_jo1 (pj := 231) (lvj := fun w15 => [(0, .ref 218), (1, .int v3), (2, .int v4), (6, .int x12)]) (stj := fun w15 => [.int w15]) (fun w15 => ?_) (fun J231 hJ231 => ?_)
            · show MF rI (yX12_readOver.cls, cX12_readOver, 10, (some .boolean), yX12_readOver.name, d + 3, 0, 0) 231 [(0, .ref 218), (1, .int v3), (2, .int v4), (6, .int x12)] [.int w15] q _
              refine mf_istore [(7, .int w15), (0, .ref 218), (1, .int v3), (2, .int v4), (6, .int x12)] dX12_readOver_231 (Nat.le_of_ble_eq_true rfl) rfl ?_
              refine mf_iconst (v := 0) dX12_readOver_233 rfl ?_
              refine mf_istore [(8, .int 0), (7, .int w15), (0, .ref 218), (1, .int v3), (2, .int v4), (6, .int x12)] dX12_readOver_234 (Nat.le_of_ble_eq_true rfl) rfl ?_
              refine mf_sub [2, 3, 4, 5, 1, 0] rfl ?_
              refine mf_lz2 (lv := fun x16 x17 => [(0, .ref 218), (1, .int v3), (2, .int v4), (6, .int x12), (7, .int x16), (8, .int x17)]) (fun L236 h236 x16 x17 => ?_) _ _ _
              show MF rI (yX12_readOver.cls, cX12_readOver, 10, (some .boolean), yX12_readOver.name, d + 3, 0, 0) 236 [(0, .ref 218), (1, .int v3), (2, .int v4), (6, .int x12), (7, .int x16), (8, .int x17)] [] q _
              refine mf_iload 5 dX12_readOver_236 rfl ?_
              refine mf_iload_n 2 dX12_readOver_238 rfl ?_
              refine mf_icmp_ge (tgt := 282) dX12_readOver_239 (by decide) ?_ ?_
              · refine mf_iload 4 dX12_readOver_282 rfl ?_
                refine mf_if_eq (tgt := 293) dX12_readOver_284 (by decide) ?_ ?_
                · refine mf_aload_n 0 dX12_readOver_293 rfl ?_
                  refine mf_getr 12 7 dX12_readOver_294 fl_X12_37 (by decide) (by decide) rfl (mo_o hM) (mo_r7 hM) (by decide) ?_
                  refine mf_bipush (v := 58) dX12_readOver_297 (by decide) ?_
                  refine mf_iload 3 dX12_readOver_299 rfl ?_
                  refine mf_iadd dX12_readOver_301 ?_
                  refine mf_iald dX12_readOver_302 (mo_a7 hM) (fun v18 => ?_)
                  refine mf_jo0 (pj := 387) (lvj := [(0, .ref 218), (1, .int v3), (2, .int v4)]) (stj := []) ?_ (fun J387 hJ387 => ?_)
                  · show MF rI (yX12_readOver.cls, cX12_readOver, 10, (some .boolean), yX12_readOver.name, d + 3, 0, 0) 387 [(0, .ref 218), (1, .int v3), (2, .int v4)] [] q _
                    refine mf_aload_n 0 dX12_readOver_387 rfl ?_
                    refine mf_getr 12 7 dX12_readOver_388 fl_X12_37 (by decide) (by decide) rfl (mo_o hM) (mo_r7 hM) (by decide) ?_
                    refine mf_bipush (v := 126) dX12_readOver_391 (by decide) ?_
                    refine mf_bipush (v := 6) dX12_readOver_393 (by decide) ?_
                    refine mf_iload_n 1 dX12_readOver_395 rfl ?_
                    refine mf_imul dX12_readOver_396 ?_
                    refine mf_iadd dX12_readOver_397 ?_
                    refine mf_iload_n 2 dX12_readOver_398 rfl ?_
                    refine mf_iadd dX12_readOver_399 ?_
                    refine mf_aload_n 0 dX12_readOver_400 rfl ?_
                    refine mf_geti 12 18 dX12_readOver_401 fl_X12_215 (by decide) (by decide) rfl (mo_o hM) (fun v19 => ?_)
                    refine mf_iast dX12_readOver_404 (mo_a7 hM) ?_
                    refine mf_aload_n 0 dX12_readOver_405 rfl ?_
                    refine mf_getr 12 7 dX12_readOver_406 fl_X12_37 (by decide) (by decide) rfl (mo_o hM) (mo_r7 hM) (by decide) ?_
                    refine mf_bipush (v := 116) dX12_readOver_409 (by decide) ?_
                    refine mf_iload_n 1 dX12_readOver_411 rfl ?_
                    refine mf_iadd dX12_readOver_412 ?_
                    refine mf_dup2 dX12_readOver_413 rfl rfl ?_
                    refine mf_iald dX12_readOver_414 (mo_a7 hM) (fun v20 => ?_)
                    refine mf_iconst (v := 1) dX12_readOver_415 rfl ?_
                    refine mf_iadd dX12_readOver_416 ?_
                    refine mf_iast dX12_readOver_417 (mo_a7 hM) ?_
                    refine mf_aload_n 0 dX12_readOver_418 rfl ?_
                    refine mf_cVv (rest := []) [] (aX12_next (d + 0) q hM) mY_X12_next dX12_readOver_419 ml_X12_208 (mo_o hM) rfl rfl (Nat.le_of_ble_eq_true rfl) rfl (fun _ => ?_)
                    refine mf_iconst (v := 1) dX12_readOver_422 rfl ?_
                    exact mf_ireturn dX12_readOver_423 rfl rfl ⟨rfl, rfl⟩
                  refine mf_if_le (tgt := 387) dX12_readOver_303 (by decide) ?_ ?_
                  · refine mf_sub [0, 1, 2] rfl ?_
                    exact hJ387
                  · refine mf_iconst (v := 1) dX12_readOver_306 rfl ?_
                    refine mf_aload_n 0 dX12_readOver_307 rfl ?_
                    refine mf_getr 12 7 dX12_readOver_308 fl_X12_37 (by decide) (by decide) rfl (mo_o hM) (mo_r7 hM) (by decide) ?_
                    refine mf_bipush (v := 58) dX12_readOver_311 (by decide) ?_
                    refine mf_iload 3 dX12_readOver_313 rfl ?_
                    refine mf_iadd dX12_readOver_315 ?_
                    refine mf_iald dX12_readOver_316 (mo_a7 hM) (fun v21 => ?_)
                    refine mf_iconst (v := 1) dX12_readOver_317 rfl ?_
                    refine mf_isub dX12_readOver_318 ?_
                    refine mf_ishl dX12_readOver_319 ?_
                    refine mf_istore [(8, .int (1 <<< ((v21 - 1) &&& 31))), (0, .ref 218), (1, .int v3), (2, .int v4), (6, .int x12), (7, .int x16)] dX12_readOver_320 (Nat.le_of_ble_eq_true rfl) rfl ?_
                    refine mf_aload_n 1 dX12_readOver_322 rfl ?_
                    refine mf_getr 12 7 dX12_readOver_323 fl_X12_37 (by decide) (by decide) rfl (mo_o hM) (mo_r7 hM) (by decide) ?_
                    refine mf_bipush (v := 74) dX12_readOver_326 (by decide) ?_
                    refine mf_iload 4 dX12_readOver_328 rfl ?_
                    refine mf_iadd dX12_readOver_330 ?_
                    refine mf_iald dX12_readOver_331 (mo_a7 hM) (fun v22 => ?_)
                    refine mf_jo1 (pj := 344) (lvj := fun w23 => [(0, .ref 218), (1, .int v3), (2, .int v4), (8, .int (1 <<< ((v21 - 1) &&& 31)))]) (stj := fun w23 => [.int w23]) (fun w23 => ?_) (fun J344 hJ344 => ?_)
                    · show MF rI (yX12_readOver.cls, cX12_readOver, 10, (some .boolean), yX12_readOver.name, d + 3, 0, 0) 344 [(0, .ref 218), (1, .int v3), (2, .int v4), (8, .int (1 <<< ((v21 - 1) &&& 31)))] [.int w23] q _
                      refine mf_iload_n 1 dX12_readOver_344 rfl ?_
                      refine mf_iadd dX12_readOver_345 ?_
                      refine mf_istore [(9, .int (w23 + v3)), (0, .ref 218), (1, .int v3), (2, .int v4), (8, .int (1 <<< ((v21 - 1) &&& 31)))] dX12_readOver_346 (Nat.le_of_ble_eq_true rfl) rfl ?_
                      refine mf_aload_n 1 dX12_readOver_348 rfl ?_
                      refine mf_getr 12 7 dX12_readOver_349 fl_X12_37 (by decide) (by decide) rfl (mo_o hM) (mo_r7 hM) (by decide) ?_
                      refine mf_sipush (v := 382) dX12_readOver_352 (by decide) ?_
                      refine mf_iload 0 dX12_readOver_355 rfl ?_
                      refine mf_isub dX12_readOver_357 ?_
                      refine mf_iconst (v := 2) dX12_readOver_358 rfl ?_
                      refine mf_iload_n 2 dX12_readOver_359 rfl ?_
                      refine mf_imul dX12_readOver_360 ?_
                      refine mf_iadd dX12_readOver_361 ?_
                      refine mf_iald dX12_readOver_362 (mo_a7 hM) (fun v24 => ?_)
                      refine mf_iload 4 dX12_readOver_363 rfl ?_
                      refine mf_iand dX12_readOver_365 ?_
                      refine mf_if_eq (tgt := 375) dX12_readOver_366 (by decide) ?_ ?_
                      · refine mf_aload_n 1 dX12_readOver_375 rfl ?_
                        refine mf_getr 12 7 dX12_readOver_376 fl_X12_37 (by decide) (by decide) rfl (mo_o hM) (mo_r7 hM) (by decide) ?_
                        refine mf_iload 0 dX12_readOver_379 rfl ?_
                        refine mf_dup2 dX12_readOver_381 rfl rfl ?_
                        refine mf_iald dX12_readOver_382 (mo_a7 hM) (fun v25 => ?_)
                        refine mf_iload 4 dX12_readOver_383 rfl ?_
                        refine mf_ior dX12_readOver_385 ?_
                        refine mf_iast dX12_readOver_386 (mo_a7 hM) ?_
                        refine mf_sub [1, 2, 3] rfl ?_
                        exact hJ387
                      · refine mf_aload_n 1 dX12_readOver_369 rfl ?_
                        refine mf_iconst (v := 3) dX12_readOver_370 rfl ?_
                        refine mf_cVi (rest := []) [.int 3] (aX12_bad (d + 1) q hM 3) mY_X12_bad dX12_readOver_371 ml_X12_205 (mo_o hM) rfl rfl (Nat.le_of_ble_eq_true rfl) rfl (fun v26 => ?_)
                        exact mf_zreturn dX12_readOver_374 rfl ⟨rfl, rfl⟩
                    refine mf_if_ne (tgt := 341) dX12_readOver_332 (by decide) ?_ ?_
                    · refine mf_sipush (v := 196) dX12_readOver_341 (by decide) ?_
                      refine mf_sub [1, 2, 3, 0] rfl ?_
                      exact hJ344 _
                    · refine mf_sipush (v := 186) dX12_readOver_335 (by decide) ?_
                      refine mf_goto (tgt := 344) dX12_readOver_338 (by decide) ?_
                      refine mf_sub [1, 2, 3, 0] rfl ?_
                      exact hJ344 _
                · refine mf_aload_n 0 dX12_readOver_287 rfl ?_
                  refine mf_iconst (v := 3) dX12_readOver_288 rfl ?_
                  refine mf_cVi (rest := []) [.int 3] (aX12_bad (d + 1) q hM 3) mY_X12_bad dX12_readOver_289 ml_X12_205 (mo_o hM) rfl rfl (Nat.le_of_ble_eq_true rfl) rfl (fun v27 => ?_)
                  exact mf_zreturn dX12_readOver_292 rfl ⟨rfl, rfl⟩
              · refine mf_iload 4 dX12_readOver_242 rfl ?_
                refine mf_if_ne (tgt := 269) dX12_readOver_244 (by decide) ?_ ?_
                · refine mf_iconst (v := 1) dX12_readOver_269 rfl ?_
                  refine mf_goto (tgt := 274) dX12_readOver_270 (by decide) ?_
                  refine mf_istore [(7, .int 1), (0, .ref 218), (1, .int v3), (2, .int v4), (6, .int x12), (8, .int x17)] dX12_readOver_274 (Nat.le_of_ble_eq_true rfl) rfl ?_
                  refine mf_iinc 5 (x17 + 1) [(8, .int (x17 + 1)), (7, .int 1), (0, .ref 218), (1, .int v3), (2, .int v4), (6, .int x12)] dX12_readOver_276 rfl rfl (Nat.le_of_ble_eq_true rfl) rfl ?_
                  refine mf_goto (tgt := 236) dX12_readOver_279 (by decide) ?_
                  refine mf_sub [2, 3, 4, 5, 1, 0] rfl ?_
                  exact h236 _ _
                · refine mf_aload_n 0 dX12_readOver_247 rfl ?_
                  refine mf_getr 12 7 dX12_readOver_248 fl_X12_37 (by decide) (by decide) rfl (mo_o hM) (mo_r7 hM) (by decide) ?_
                  refine mf_bipush (v := 126) dX12_readOver_251 (by decide) ?_
                  refine mf_bipush (v := 6) dX12_readOver_253 (by decide) ?_
                  refine mf_iload_n 1 dX12_readOver_255 rfl ?_
                  refine mf_imul dX12_readOver_256 ?_
                  refine mf_iadd dX12_readOver_257 ?_
                  refine mf_iload 5 dX12_readOver_258 rfl ?_
                  refine mf_iadd dX12_readOver_260 ?_
                  refine mf_iald dX12_readOver_261 (mo_a7 hM) (fun v28 => ?_)
                  refine mf_aload_n 0 dX12_readOver_262 rfl ?_
                  refine mf_geti 12 18 dX12_readOver_263 fl_X12_215 (by decide) (by decide) rfl (mo_o hM) (fun v29 => ?_)
                  refine mf_icmp_ne (tgt := 273) dX12_readOver_266 (by decide) ?_ ?_
                  · refine mf_iconst (v := 0) dX12_readOver_273 rfl ?_
                    refine mf_istore [(7, .int 0), (0, .ref 218), (1, .int v3), (2, .int v4), (6, .int x12), (8, .int x17)] dX12_readOver_274 (Nat.le_of_ble_eq_true rfl) rfl ?_
                    refine mf_iinc 5 (x17 + 1) [(8, .int (x17 + 1)), (7, .int 0), (0, .ref 218), (1, .int v3), (2, .int v4), (6, .int x12)] dX12_readOver_276 rfl rfl (Nat.le_of_ble_eq_true rfl) rfl ?_
                    refine mf_goto (tgt := 236) dX12_readOver_279 (by decide) ?_
                    refine mf_sub [2, 3, 4, 5, 1, 0] rfl ?_
                    exact h236 _ _
                  · refine mf_iconst (v := 1) dX12_readOver_269 rfl ?_
                    refine mf_goto (tgt := 274) dX12_readOver_270 (by decide) ?_
                    refine mf_istore [(7, .int 1), (0, .ref 218), (1, .int v3), (2, .int v4), (6, .int x12), (8, .int x17)] dX12_readOver_274 (Nat.le_of_ble_eq_true rfl) rfl ?_
                    refine mf_iinc 5 (x17 + 1) [(8, .int (x17 + 1)), (7, .int 1), (0, .ref 218), (1, .int v3), (2, .int v4), (6, .int x12)] dX12_readOver_276 rfl rfl (Nat.le_of_ble_eq_true rfl) rfl ?_
                    refine mf_goto (tgt := 236) dX12_readOver_279 (by decide) ?_
                    refine mf_sub [2, 3, 4, 5, 1, 0] rfl ?_
                    exact h236 _ _
            refine mf_if_lt (tgt := 226) dX12_readOver_214 (by decide) ?_ ?_
            · refine mf_iconst (v := 1) dX12_readOver_226 rfl ?_
              refine mf_goto (tgt := 231) dX12_readOver_227 (by decide) ?_
              refine mf_sub [0, 1, 2, 6] rfl ?_
              exact hJ231 _
            · refine mf_aload_n 0 dX12_readOver_217 rfl ?_
              refine mf_geti 12 18 dX12_readOver_218 fl_X12_215 (by decide) (by decide) rfl (mo_o hM) (fun v30 => ?_)
              refine mf_iload 4 dX12_readOver_221 rfl ?_
              refine mf_icmp_ne (tgt := 230) dX12_readOver_223 (by decide) ?_ ?_
              · refine mf_iconst (v := 0) dX12_readOver_230 rfl ?_
                refine mf_sub [0, 1, 2, 6] rfl ?_
                exact hJ231 _
              · refine mf_iconst (v := 1) dX12_readOver_226 rfl ?_
                refine mf_goto (tgt := 231) dX12_readOver_227 (by decide) ?_
                refine mf_sub [0, 1, 2, 6] rfl ?_
                exact hJ231 _
          · refine mf_aload_n 0 dX12_readOver_150 rfl ?_
            refine mf_getr 12 7 dX12_readOver_151 fl_X12_37 (by decide) (by decide) rfl (mo_o hM) (mo_r7 hM) (by decide) ?_
            refine mf_bipush (v := 26) dX12_readOver_154 (by decide) ?_
            refine mf_iload 7 dX12_readOver_156 rfl ?_
            refine mf_iadd dX12_readOver_158 ?_
            refine mf_iald dX12_readOver_159 (mo_a7 hM) (fun v31 => ?_)
            refine mf_iload_n 3 dX12_readOver_160 rfl ?_
            refine mf_jo2 (pj := 173) (lvj := fun w32 w33 => [(0, .ref 218), (1, .int v3), (2, .int v4), (3, .int v8), (4, .int v10), (5, .int w11), (6, .int x12), (7, .int x13)]) (stj := fun w32 w33 => [.int w32, .int w33]) (fun w32 w33 => ?_) (fun J173 hJ173 => ?_)
            · show MF rI (yX12_readOver.cls, cX12_readOver, 10, (some .boolean), yX12_readOver.name, d + 3, 0, 0) 173 [(0, .ref 218), (1, .int v3), (2, .int v4), (3, .int v8), (4, .int v10), (5, .int w11), (6, .int x12), (7, .int x13)] [.int w32, .int w33] q _
              refine mf_icmp_ne (tgt := 206) dX12_readOver_173 (by decide) ?_ ?_
              · refine mf_iinc 7 (x13 + 1) [(7, .int (x13 + 1)), (0, .ref 218), (1, .int v3), (2, .int v4), (3, .int v8), (4, .int v10), (5, .int w11), (6, .int x12)] dX12_readOver_206 rfl rfl (Nat.le_of_ble_eq_true rfl) rfl ?_
                refine mf_goto (tgt := 139) dX12_readOver_209 (by decide) ?_
                refine mf_sub [1, 2, 3, 4, 5, 6, 7, 0] rfl ?_
                exact h139 _ _
              · refine mf_aload_n 0 dX12_readOver_176 rfl ?_
                refine mf_getr 12 7 dX12_readOver_177 fl_X12_37 (by decide) (by decide) rfl (mo_o hM) (mo_r7 hM) (by decide) ?_
                refine mf_bipush (v := 42) dX12_readOver_180 (by decide) ?_
                refine mf_iload 7 dX12_readOver_182 rfl ?_
                refine mf_iadd dX12_readOver_184 ?_
                refine mf_iald dX12_readOver_185 (mo_a7 hM) (fun v34 => ?_)
                refine mf_iload_n 3 dX12_readOver_186 rfl ?_
                refine mf_if_ne (tgt := 197) dX12_readOver_187 (by decide) ?_ ?_
                · refine mf_iload 5 dX12_readOver_197 rfl ?_
                  refine mf_icmp_ne (tgt := 206) dX12_readOver_199 (by decide) ?_ ?_
                  · refine mf_iinc 7 (x13 + 1) [(7, .int (x13 + 1)), (0, .ref 218), (1, .int v3), (2, .int v4), (3, .int v8), (4, .int v10), (5, .int w11), (6, .int x12)] dX12_readOver_206 rfl rfl (Nat.le_of_ble_eq_true rfl) rfl ?_
                    refine mf_goto (tgt := 139) dX12_readOver_209 (by decide) ?_
                    refine mf_sub [1, 2, 3, 4, 5, 6, 7, 0] rfl ?_
                    exact h139 _ _
                  · refine mf_iload 7 dX12_readOver_202 rfl ?_
                    refine mf_istore [(6, .int x13), (0, .ref 218), (1, .int v3), (2, .int v4), (3, .int v8), (4, .int v10), (5, .int w11), (7, .int x13)] dX12_readOver_204 (Nat.le_of_ble_eq_true rfl) rfl ?_
                    refine mf_iinc 7 (x13 + 1) [(7, .int (x13 + 1)), (6, .int x13), (0, .ref 218), (1, .int v3), (2, .int v4), (3, .int v8), (4, .int v10), (5, .int w11)] dX12_readOver_206 rfl rfl (Nat.le_of_ble_eq_true rfl) rfl ?_
                    refine mf_goto (tgt := 139) dX12_readOver_209 (by decide) ?_
                    refine mf_sub [2, 3, 4, 5, 6, 7, 1, 0] rfl ?_
                    exact h139 _ _
                · refine mf_aload_n 0 dX12_readOver_190 rfl ?_
                  refine mf_geti 12 18 dX12_readOver_191 fl_X12_215 (by decide) (by decide) rfl (mo_o hM) (fun v35 => ?_)
                  refine mf_goto (tgt := 199) dX12_readOver_194 (by decide) ?_
                  refine mf_icmp_ne (tgt := 206) dX12_readOver_199 (by decide) ?_ ?_
                  · refine mf_iinc 7 (x13 + 1) [(7, .int (x13 + 1)), (0, .ref 218), (1, .int v3), (2, .int v4), (3, .int v8), (4, .int v10), (5, .int w11), (6, .int x12)] dX12_readOver_206 rfl rfl (Nat.le_of_ble_eq_true rfl) rfl ?_
                    refine mf_goto (tgt := 139) dX12_readOver_209 (by decide) ?_
                    refine mf_sub [1, 2, 3, 4, 5, 6, 7, 0] rfl ?_
                    exact h139 _ _
                  · refine mf_iload 7 dX12_readOver_202 rfl ?_
                    refine mf_istore [(6, .int x13), (0, .ref 218), (1, .int v3), (2, .int v4), (3, .int v8), (4, .int v10), (5, .int w11), (7, .int x13)] dX12_readOver_204 (Nat.le_of_ble_eq_true rfl) rfl ?_
                    refine mf_iinc 7 (x13 + 1) [(7, .int (x13 + 1)), (6, .int x13), (0, .ref 218), (1, .int v3), (2, .int v4), (3, .int v8), (4, .int v10), (5, .int w11)] dX12_readOver_206 rfl rfl (Nat.le_of_ble_eq_true rfl) rfl ?_
                    refine mf_goto (tgt := 139) dX12_readOver_209 (by decide) ?_
                    refine mf_sub [2, 3, 4, 5, 6, 7, 1, 0] rfl ?_
                    exact h139 _ _
            refine mf_if_ne (tgt := 169) dX12_readOver_161 (by decide) ?_ ?_
            · refine mf_aload_n 0 dX12_readOver_169 rfl ?_
              refine mf_geti 12 18 dX12_readOver_170 fl_X12_215 (by decide) (by decide) rfl (mo_o hM) (fun v36 => ?_)
              exact hJ173 _ _
            · refine mf_iload 5 dX12_readOver_164 rfl ?_
              refine mf_goto (tgt := 173) dX12_readOver_166 (by decide) ?_
              exact hJ173 _ _
        refine mf_if_ne (tgt := 115) dX12_readOver_107 (by decide) ?_ ?_
        · refine mf_aload_n 4 dX12_readOver_115 rfl ?_
          refine mf_getr 12 7 dX12_readOver_116 fl_X12_37 (by decide) (by decide) rfl (mo_o hM) (mo_r7 hM) (by decide) ?_
          refine mf_bipush (v := 126) dX12_readOver_119 (by decide) ?_
          refine mf_bipush (v := 6) dX12_readOver_121 (by decide) ?_
          refine mf_iload_n 3 dX12_readOver_123 rfl ?_
          refine mf_imul dX12_readOver_124 ?_
          refine mf_iadd dX12_readOver_125 ?_
          refine mf_iload_n 2 dX12_readOver_126 rfl ?_
          refine mf_iadd dX12_readOver_127 ?_
          refine mf_iconst (v := 1) dX12_readOver_128 rfl ?_
          refine mf_isub dX12_readOver_129 ?_
          refine mf_iald dX12_readOver_130 (mo_a7 hM) (fun v37 => ?_)
          refine mf_sub [4, 3, 2, 1, 0] rfl ?_
          exact hJ131 _
        · refine mf_iload 0 dX12_readOver_110 rfl ?_
          refine mf_goto (tgt := 131) dX12_readOver_112 (by decide) ?_
          refine mf_sub [4, 3, 2, 1, 0] rfl ?_
          exact hJ131 _
      · refine mf_iconst (v := 0) dX12_readOver_67 rfl ?_
        exact mf_ireturn dX12_readOver_68 rfl rfl ⟨rfl, rfl⟩
    · refine mf_aload_n 2 dX12_readOver_42 rfl ?_
      refine mf_iconst (v := 4) dX12_readOver_43 rfl ?_
      refine mf_cVi (rest := []) [.int 4] (aX12_bad (d + 1) q hM 4) mY_X12_bad dX12_readOver_44 ml_X12_205 (mo_o hM) rfl rfl (Nat.le_of_ble_eq_true rfl) rfl (fun v38 => ?_)
      exact mf_zreturn dX12_readOver_47 rfl ⟨rfl, rfl⟩
  · refine mf_iconst (v := 0) dX12_readOver_19 rfl ?_
    exact mf_ireturn dX12_readOver_20 rfl rfl ⟨rfl, rfl⟩
