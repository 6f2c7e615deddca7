set_option maxRecDepth 100000 in
set_option maxHeartbeats 4000000 in
theorem aX6_readSection (d : Nat) (q : m_S) (hq : isW q)  : AC rI yX6_readSection cX6_readSection 5 (some .boolean) (d + 5) [.ref 25, .ref 1] q (fX6_readSection ) := by
  refine ac_of (by decide +kernel) (Nat.le_of_ble_eq_true rfl) ?_
  unfold fX6_readSection
  show MF rI (yX6_readSection.cls, cX6_readSection, 5, (some .boolean), yX6_readSection.name, d + 5, 0, 0) 0 [(0, .ref 25), (1, .ref 1)] [] q _
  refine mf_aload_n 0 dX6_readSection_0 rfl ?_
  refine mf_aload_n 1 dX6_readSection_1 rfl ?_
  refine mf_iconst (v := 0) dX6_readSection_2 rfl ?_
  refine mf_bipush (v := 12) dX6_readSection_3 (by decide) ?_
  refine mf_cVi (rest := []) [.ref 1, .int 0, .int 12] (aX6_hasRoom (d + 2) q hq 0 12) mY_X6_hasRoom dX6_readSection_5 ml_X6_90 (rd_o (w_rd hq)) rfl rfl (Nat.le_of_ble_eq_true rfl) rfl (fun v1 => ?_)
  refine mf_if_eq (tgt := 22) dX6_readSection_8 (by decide) ?_ ?_
  · refine mf_iconst (v := 0) dX6_readSection_22 rfl ?_
    exact mf_ireturn dX6_readSection_23 rfl rfl ⟨rfl, rfl⟩
  · refine mf_aload_n 1 dX6_readSection_11 rfl ?_
    refine mf_aload_n 0 dX6_readSection_12 rfl ?_
    refine mf_getr 6 0 dX6_readSection_13 fl_X6_12 (by decide) (by decide) rfl (rd_o (w_rd hq)) (rd_r0 (w_rd hq)) (by decide) ?_
    refine mf_cVi (rest := []) [.ref 26] (aX10_nextNewName (d + 0) q hq 26 pl26) mY_X10_nextNewName dX6_readSection_16 ml_X6_94 (tx_o (w_tx hq)) rfl rfl (Nat.le_of_ble_eq_true rfl) rfl (fun v2 => ?_)
    refine mf_if_ne (tgt := 24) dX6_readSection_19 (by decide) ?_ ?_
    · refine mf_aload_n 1 dX6_readSection_24 rfl ?_
      refine mf_getl 10 7 dX6_readSection_25 fl_X6_98 (by decide) (by decide) rfl (tx_o (w_tx hq)) (fun v3 => ?_)
      refine mf_lstore_n [(2, .long v3), (0, .ref 25), (1, .ref 1)] dX6_readSection_28 (Nat.le_of_ble_eq_true rfl) rfl ?_
      refine mf_aload_n 2 dX6_readSection_29 rfl ?_
      refine mf_iconst (v := 1) dX6_readSection_30 rfl ?_
      refine mf_bipush (v := 30) dX6_readSection_31 (by decide) ?_
      refine mf_cVi (rest := []) [.int 1, .int 30] (aX10_nextNumber (d + 0) q hq 1 30) mY_X10_nextNumber dX6_readSection_33 ml_X6_102 (tx_o (w_tx hq)) rfl rfl (Nat.le_of_ble_eq_true rfl) rfl (fun v4 => ?_)
      refine mf_istore [(4, .int v4), (2, .long v3), (0, .ref 25), (1, .ref 1)] dX6_readSection_36 (Nat.le_of_ble_eq_true rfl) rfl ?_
      refine mf_iload 0 dX6_readSection_38 rfl ?_
      refine mf_iconst (v := -1) dX6_readSection_40 rfl ?_
      refine mf_icmp_ne (tgt := 46) dX6_readSection_41 (by decide) ?_ ?_
      · refine mf_aload_n 2 dX6_readSection_46 rfl ?_
        refine mf_getr 6 0 dX6_readSection_47 fl_X6_12 (by decide) (by decide) rfl (rd_o (w_rd hq)) (rd_r0 (w_rd hq)) (by decide) ?_
        refine mf_getr 5 2 dX6_readSection_50 fl_X6_106 (by decide) (by decide) rfl (pl_o (w_pl hq pl26)) (pl_r2 (w_pl hq pl26)) (by decide) ?_
        refine mf_aload_n 2 dX6_readSection_53 rfl ?_
        refine mf_getr 6 0 dX6_readSection_54 fl_X6_12 (by decide) (by decide) rfl (rd_o (w_rd hq)) (rd_r0 (w_rd hq)) (by decide) ?_
        refine mf_iconst (v := 0) dX6_readSection_57 rfl ?_
        refine mf_lload_n 1 dX6_readSection_58 rfl ?_
        refine mf_cVi (rest := [.ref (26 + 3)]) [.int 0, .long v3] (aX5_addOne (d + 3) q hq 26 0 v3 pl26) mY_X5_addOne dX6_readSection_59 ml_X6_109 (pl_o (w_pl hq pl26)) rfl rfl (Nat.le_of_ble_eq_true rfl) rfl (fun v5 => ?_)
        refine mf_iload 0 dX6_readSection_62 rfl ?_
        refine mf_iast dX6_readSection_64 (pl_a2 (w_pl hq pl26)) ?_
        refine mf_aload_n 3 dX6_readSection_65 rfl ?_
        refine mf_cSi (rest := []) [.ref 1] (aX6_goOn (d + 0) q hq) mY_X6_goOn dX6_readSection_66 ml_X6_113 rfl rfl (Nat.le_of_ble_eq_true rfl) rfl (fun v6 => ?_)
        exact mf_zreturn dX6_readSection_69 rfl ⟨rfl, rfl⟩
      · refine mf_iconst (v := 0) dX6_readSection_44 rfl ?_
        exact mf_ireturn dX6_readSection_45 rfl rfl ⟨rfl, rfl⟩
    · refine mf_iconst (v := 0) dX6_readSection_22 rfl ?_
      exact mf_ireturn dX6_readSection_23 rfl rfl ⟨rfl, rfl⟩
set_option maxRecDepth 100000 in
set_option maxHeartbeats 4000000 in
theorem aX6_readPoints (d : Nat) (q : m_S) (hq : isW q)  : AC rI yX6_readPoints cX6_readPoints 5 (some .boolean) (d + 5) [.ref 25, .ref 1] q (fX6_readPoints ) := by
  refine ac_of (by decide +kernel) (Nat.le_of_ble_eq_true rfl) ?_
  unfold fX6_readPoints
  show MF rI (yX6_readPoints.cls, cX6_readPoints, 5, (some .boolean), yX6_readPoints.name, d + 5, 0, 0) 0 [(0, .ref 25), (1, .ref 1)] [] q _
  refine mf_aload_n 0 dX6_readPoints_0 rfl ?_
  refine mf_aload_n 1 dX6_readPoints_1 rfl ?_
  refine mf_iconst (v := 1) dX6_readPoints_2 rfl ?_
  refine mf_bipush (v := 6) dX6_readPoints_3 (by decide) ?_
  refine mf_cVi (rest := []) [.ref 1, .int 1, .int 6] (aX6_hasRoom (d + 2) q hq 1 6) mY_X6_hasRoom dX6_readPoints_5 ml_X6_90 (rd_o (w_rd hq)) rfl rfl (Nat.le_of_ble_eq_true rfl) rfl (fun v1 => ?_)
  refine mf_if_eq (tgt := 22) dX6_readPoints_8 (by decide) ?_ ?_
  · refine mf_iconst (v := 0) dX6_readPoints_22 rfl ?_
    exact mf_ireturn dX6_readPoints_23 rfl rfl ⟨rfl, rfl⟩
  · refine mf_aload_n 1 dX6_readPoints_11 rfl ?_
    refine mf_aload_n 0 dX6_readPoints_12 rfl ?_
    refine mf_getr 6 0 dX6_readPoints_13 fl_X6_12 (by decide) (by decide) rfl (rd_o (w_rd hq)) (rd_r0 (w_rd hq)) (by decide) ?_
    refine mf_cVi (rest := []) [.ref 26] (aX10_nextNewName (d + 0) q hq 26 pl26) mY_X10_nextNewName dX6_readPoints_16 ml_X6_94 (tx_o (w_tx hq)) rfl rfl (Nat.le_of_ble_eq_true rfl) rfl (fun v2 => ?_)
    refine mf_if_ne (tgt := 24) dX6_readPoints_19 (by decide) ?_ ?_
    · refine mf_aload_n 1 dX6_readPoints_24 rfl ?_
      refine mf_getl 10 7 dX6_readPoints_25 fl_X6_98 (by decide) (by decide) rfl (tx_o (w_tx hq)) (fun v3 => ?_)
      refine mf_lstore_n [(2, .long v3), (0, .ref 25), (1, .ref 1)] dX6_readPoints_28 (Nat.le_of_ble_eq_true rfl) rfl ?_
      refine mf_aload_n 2 dX6_readPoints_29 rfl ?_
      refine mf_aload_n 1 dX6_readPoints_30 rfl ?_
      refine mf_getr 6 0 dX6_readPoints_31 fl_X6_12 (by decide) (by decide) rfl (rd_o (w_rd hq)) (rd_r0 (w_rd hq)) (by decide) ?_
      refine mf_iconst (v := 0) dX6_readPoints_34 rfl ?_
      refine mf_cVi (rest := []) [.ref 26, .int 0] (aX10_nextNamed (d + 0) q hq 26 0 pl26) mY_X10_nextNamed dX6_readPoints_35 ml_X6_116 (tx_o (w_tx hq)) rfl rfl (Nat.le_of_ble_eq_true rfl) rfl (fun v4 => ?_)
      refine mf_istore [(4, .int v4), (2, .long v3), (0, .ref 25), (1, .ref 1)] dX6_readPoints_38 (Nat.le_of_ble_eq_true rfl) rfl ?_
      refine mf_iload 0 dX6_readPoints_40 rfl ?_
      refine mf_iconst (v := -1) dX6_readPoints_42 rfl ?_
      refine mf_icmp_ne (tgt := 48) dX6_readPoints_43 (by decide) ?_ ?_
      · refine mf_aload_n 2 dX6_readPoints_48 rfl ?_
        refine mf_getr 6 0 dX6_readPoints_49 fl_X6_12 (by decide) (by decide) rfl (rd_o (w_rd hq)) (rd_r0 (w_rd hq)) (by decide) ?_
        refine mf_getr 5 3 dX6_readPoints_52 fl_X6_120 (by decide) (by decide) rfl (pl_o (w_pl hq pl26)) (pl_r3 (w_pl hq pl26)) (by decide) ?_
        refine mf_aload_n 2 dX6_readPoints_55 rfl ?_
        refine mf_getr 6 0 dX6_readPoints_56 fl_X6_12 (by decide) (by decide) rfl (rd_o (w_rd hq)) (rd_r0 (w_rd hq)) (by decide) ?_
        refine mf_iconst (v := 1) dX6_readPoints_59 rfl ?_
        refine mf_lload_n 1 dX6_readPoints_60 rfl ?_
        refine mf_cVi (rest := [.ref (26 + 4)]) [.int 1, .long v3] (aX5_addOne (d + 3) q hq 26 1 v3 pl26) mY_X5_addOne dX6_readPoints_61 ml_X6_109 (pl_o (w_pl hq pl26)) rfl rfl (Nat.le_of_ble_eq_true rfl) rfl (fun v5 => ?_)
        refine mf_iload 0 dX6_readPoints_64 rfl ?_
        refine mf_iast dX6_readPoints_66 (pl_a3 (w_pl hq pl26)) ?_
        refine mf_aload_n 3 dX6_readPoints_67 rfl ?_
        refine mf_cSi (rest := []) [.ref 1] (aX6_goOn (d + 0) q hq) mY_X6_goOn dX6_readPoints_68 ml_X6_113 rfl rfl (Nat.le_of_ble_eq_true rfl) rfl (fun v6 => ?_)
        exact mf_zreturn dX6_readPoints_71 rfl ⟨rfl, rfl⟩
      · refine mf_iconst (v := 0) dX6_readPoints_46 rfl ?_
        exact mf_ireturn dX6_readPoints_47 rfl rfl ⟨rfl, rfl⟩
    · refine mf_iconst (v := 0) dX6_readPoints_22 rfl ?_
      exact mf_ireturn dX6_readPoints_23 rfl rfl ⟨rfl, rfl⟩
set_option maxRecDepth 100000 in
set_option maxHeartbeats 4000000 in
theorem aX6_readPointsBy (d : Nat) (q : m_S) (hq : isW q) (a1 : Int32) (a2 : Int32) : AC rI yX6_readPointsBy cX6_readPointsBy 6 (some .int) (d + 3) [.ref 25, .ref 1, .int a1, .int a2] q (fX6_readPointsBy a1 a2) := by
  refine ac_of (by decide +kernel) (Nat.le_of_ble_eq_true rfl) ?_
  unfold fX6_readPointsBy
  show MF rI (yX6_readPointsBy.cls, cX6_readPointsBy, 6, (some .int), yX6_readPointsBy.name, d + 3, 0, 0) 0 [(0, .ref 25), (1, .ref 1), (2, .int a1), (3, .int a2)] [] q _
  refine mf_aload_n 1 dX6_readPointsBy_0 rfl ?_
  refine mf_aload_n 0 dX6_readPointsBy_1 rfl ?_
  refine mf_getr 6 0 dX6_readPointsBy_2 fl_X6_12 (by decide) (by decide) rfl (rd_o (w_rd hq)) (rd_r0 (w_rd hq)) (by decide) ?_
  refine mf_iconst (v := 1) dX6_readPointsBy_5 rfl ?_
  refine mf_cVi (rest := []) [.ref 26, .int 1] (aX10_named (d + 0) q hq 26 1 pl26) mY_X10_named dX6_readPointsBy_6 ml_X6_141 (tx_o (w_tx hq)) rfl rfl (Nat.le_of_ble_eq_true rfl) rfl (fun v1 => ?_)
  refine mf_istore [(4, .int v1), (0, .ref 25), (1, .ref 1), (2, .int a1), (3, .int a2)] dX6_readPointsBy_9 (Nat.le_of_ble_eq_true rfl) rfl ?_
  refine mf_iload 0 dX6_readPointsBy_11 rfl ?_
  refine mf_iconst (v := -1) dX6_readPointsBy_13 rfl ?_
  refine mf_icmp_ne (tgt := 19) dX6_readPointsBy_14 (by decide) ?_ ?_
  · refine mf_aload_n 1 dX6_readPointsBy_19 rfl ?_
    refine mf_getr 6 0 dX6_readPointsBy_20 fl_X6_12 (by decide) (by decide) rfl (rd_o (w_rd hq)) (rd_r0 (w_rd hq)) (by decide) ?_
    refine mf_getr 5 3 dX6_readPointsBy_23 fl_X6_120 (by decide) (by decide) rfl (pl_o (w_pl hq pl26)) (pl_r3 (w_pl hq pl26)) (by decide) ?_
    refine mf_iload 0 dX6_readPointsBy_26 rfl ?_
    refine mf_iald dX6_readPointsBy_28 (pl_a3 (w_pl hq pl26)) (fun v2 => ?_)
    refine mf_istore [(5, .int v2), (4, .int v1), (0, .ref 25), (1, .ref 1), (2, .int a1), (3, .int a2)] dX6_readPointsBy_29 (Nat.le_of_ble_eq_true rfl) rfl ?_
    refine mf_iload 0 dX6_readPointsBy_31 rfl ?_
    refine mf_iload_n 4 dX6_readPointsBy_33 rfl ?_
    refine mf_icmp_eq (tgt := 51) dX6_readPointsBy_34 (by decide) ?_ ?_
    · refine mf_iload 1 dX6_readPointsBy_51 rfl ?_
      exact mf_ireturn dX6_readPointsBy_53 rfl rfl ⟨rfl, rfl⟩
    · refine mf_iload 0 dX6_readPointsBy_37 rfl ?_
      refine mf_iload_n 5 dX6_readPointsBy_39 rfl ?_
      refine mf_icmp_eq (tgt := 51) dX6_readPointsBy_40 (by decide) ?_ ?_
      · refine mf_iload 1 dX6_readPointsBy_51 rfl ?_
        exact mf_ireturn dX6_readPointsBy_53 rfl rfl ⟨rfl, rfl⟩
      · refine mf_aload_n 3 dX6_readPointsBy_43 rfl ?_
        refine mf_iconst (v := 3) dX6_readPointsBy_44 rfl ?_
        refine mf_cVi (rest := []) [.int 3] (aX10_wrong (d + 1) q hq 3) mY_X10_wrong dX6_readPointsBy_45 ml_X6_82 (tx_o (w_tx hq)) rfl rfl (Nat.le_of_ble_eq_true rfl) rfl (fun v3 => ?_)
        refine mf_pop dX6_readPointsBy_48 rfl ?_
        refine mf_iconst (v := -1) dX6_readPointsBy_49 rfl ?_
        exact mf_ireturn dX6_readPointsBy_50 rfl rfl ⟨rfl, rfl⟩
  · refine mf_iconst (v := -1) dX6_readPointsBy_17 rfl ?_
    exact mf_ireturn dX6_readPointsBy_18 rfl rfl ⟨rfl, rfl⟩
set_option maxRecDepth 100000 in
set_option maxHeartbeats 4000000 in
theorem aX6_addTrack (d : Nat) (q : m_S) (hq : isW q) (a1 : Int32) (a2 : Int32) (a3 : Int32) (a4 : Int32) : AC rU yX6_addTrack cX6_addTrack 6 none (d + 1) [.ref 25, .int a1, .int a2, .int a3, .int a4] q (fX6_addTrack a1 a2 a3 a4) := by
  refine ac_of (by decide +kernel) (Nat.le_of_ble_eq_true rfl) ?_
  unfold fX6_addTrack
  show MF rU (yX6_addTrack.cls, cX6_addTrack, 6, none, yX6_addTrack.name, d + 1, 0, 0) 0 [(0, .ref 25), (1, .int a1), (2, .int a2), (3, .int a3), (4, .int a4)] [] q _
  refine mf_aload_n 0 dX6_addTrack_0 rfl ?_
  refine mf_getr 6 0 dX6_addTrack_1 fl_X6_12 (by decide) (by decide) rfl (rd_o (w_rd hq)) (rd_r0 (w_rd hq)) (by decide) ?_
  refine mf_getr 5 0 dX6_addTrack_4 fl_X6_86 (by decide) (by decide) rfl (pl_o (w_pl hq pl26)) (pl_r0 (w_pl hq pl26)) (by decide) ?_
  refine mf_iconst (v := 2) dX6_addTrack_7 rfl ?_
  refine mf_iald dX6_addTrack_8 (pl_a0 (w_pl hq pl26)) (fun v1 => ?_)
  refine mf_istore [(5, .int v1), (0, .ref 25), (1, .int a1), (2, .int a2), (3, .int a3), (4, .int a4)] dX6_addTrack_9 (Nat.le_of_ble_eq_true rfl) rfl ?_
  refine mf_aload_n 1 dX6_addTrack_11 rfl ?_
  refine mf_getr 6 0 dX6_addTrack_12 fl_X6_12 (by decide) (by decide) rfl (rd_o (w_rd hq)) (rd_r0 (w_rd hq)) (by decide) ?_
  refine mf_getr 5 4 dX6_addTrack_15 fl_X6_144 (by decide) (by decide) rfl (pl_o (w_pl hq pl26)) (pl_r4 (w_pl hq pl26)) (by decide) ?_
  refine mf_iload 0 dX6_addTrack_18 rfl ?_
  refine mf_iload_n 2 dX6_addTrack_20 rfl ?_
  refine mf_iast dX6_addTrack_21 (pl_a4 (w_pl hq pl26)) ?_
  refine mf_aload_n 1 dX6_addTrack_22 rfl ?_
  refine mf_getr 6 0 dX6_addTrack_23 fl_X6_12 (by decide) (by decide) rfl (rd_o (w_rd hq)) (rd_r0 (w_rd hq)) (by decide) ?_
  refine mf_getr 5 5 dX6_addTrack_26 fl_X6_147 (by decide) (by decide) rfl (pl_o (w_pl hq pl26)) (pl_r5 (w_pl hq pl26)) (by decide) ?_
  refine mf_iload 0 dX6_addTrack_29 rfl ?_
  refine mf_iload_n 3 dX6_addTrack_31 rfl ?_
  refine mf_iast dX6_addTrack_32 (pl_a5 (w_pl hq pl26)) ?_
  refine mf_aload_n 1 dX6_addTrack_33 rfl ?_
  refine mf_getr 6 0 dX6_addTrack_34 fl_X6_12 (by decide) (by decide) rfl (rd_o (w_rd hq)) (rd_r0 (w_rd hq)) (by decide) ?_
  refine mf_getr 5 6 dX6_addTrack_37 fl_X6_150 (by decide) (by decide) rfl (pl_o (w_pl hq pl26)) (pl_r6 (w_pl hq pl26)) (by decide) ?_
  refine mf_iload 0 dX6_addTrack_40 rfl ?_
  refine mf_iload_n 4 dX6_addTrack_42 rfl ?_
  refine mf_iast dX6_addTrack_43 (pl_a6 (w_pl hq pl26)) ?_
  refine mf_aload_n 1 dX6_addTrack_44 rfl ?_
  refine mf_getr 6 0 dX6_addTrack_45 fl_X6_12 (by decide) (by decide) rfl (rd_o (w_rd hq)) (rd_r0 (w_rd hq)) (by decide) ?_
  refine mf_getr 5 7 dX6_addTrack_48 fl_X6_153 (by decide) (by decide) rfl (pl_o (w_pl hq pl26)) (pl_r7 (w_pl hq pl26)) (by decide) ?_
  refine mf_iload 0 dX6_addTrack_51 rfl ?_
  refine mf_iload 5 dX6_addTrack_53 rfl ?_
  refine mf_iast dX6_addTrack_55 (pl_a7 (w_pl hq pl26)) ?_
  refine mf_aload_n 1 dX6_addTrack_56 rfl ?_
  refine mf_getr 6 0 dX6_addTrack_57 fl_X6_12 (by decide) (by decide) rfl (rd_o (w_rd hq)) (rd_r0 (w_rd hq)) (by decide) ?_
  refine mf_getr 5 0 dX6_addTrack_60 fl_X6_86 (by decide) (by decide) rfl (pl_o (w_pl hq pl26)) (pl_r0 (w_pl hq pl26)) (by decide) ?_
  refine mf_iconst (v := 2) dX6_addTrack_63 rfl ?_
  refine mf_iload 0 dX6_addTrack_64 rfl ?_
  refine mf_iconst (v := 1) dX6_addTrack_66 rfl ?_
  refine mf_iadd dX6_addTrack_67 ?_
  refine mf_iast dX6_addTrack_68 (pl_a0 (w_pl hq pl26)) ?_
  exact mf_return dX6_addTrack_69 rfl ⟨rfl, rfl⟩
set_option maxRecDepth 100000 in
set_option maxHeartbeats 4000000 in
theorem aX6_readTrack (d : Nat) (q : m_S) (hq : isW q)  : AC rI yX6_readTrack cX6_readTrack 6 (some .boolean) (d + 5) [.ref 25, .ref 1] q (fX6_readTrack ) := by
  refine ac_of (by decide +kernel) (Nat.le_of_ble_eq_true rfl) ?_
  unfold fX6_readTrack
  show MF rI (yX6_readTrack.cls, cX6_readTrack, 6, (some .boolean), yX6_readTrack.name, d + 5, 0, 0) 0 [(0, .ref 25), (1, .ref 1)] [] q _
  refine mf_aload_n 0 dX6_readTrack_0 rfl ?_
  refine mf_aload_n 1 dX6_readTrack_1 rfl ?_
  refine mf_iconst (v := 2) dX6_readTrack_2 rfl ?_
  refine mf_bipush (v := 16) dX6_readTrack_3 (by decide) ?_
  refine mf_cVi (rest := []) [.ref 1, .int 2, .int 16] (aX6_hasRoom (d + 2) q hq 2 16) mY_X6_hasRoom dX6_readTrack_5 ml_X6_90 (rd_o (w_rd hq)) rfl rfl (Nat.le_of_ble_eq_true rfl) rfl (fun v1 => ?_)
  refine mf_if_ne (tgt := 13) dX6_readTrack_8 (by decide) ?_ ?_
  · refine mf_aload_n 1 dX6_readTrack_13 rfl ?_
    refine mf_aload_n 0 dX6_readTrack_14 rfl ?_
    refine mf_getr 6 0 dX6_readTrack_15 fl_X6_12 (by decide) (by decide) rfl (rd_o (w_rd hq)) (rd_r0 (w_rd hq)) (by decide) ?_
    refine mf_iconst (v := 0) dX6_readTrack_18 rfl ?_
    refine mf_cVi (rest := []) [.ref 26, .int 0] (aX10_nextNamed (d + 0) q hq 26 0 pl26) mY_X10_nextNamed dX6_readTrack_19 ml_X6_116 (tx_o (w_tx hq)) rfl rfl (Nat.le_of_ble_eq_true rfl) rfl (fun v2 => ?_)
    refine mf_istore_n [(2, .int v2), (0, .ref 25), (1, .ref 1)] dX6_readTrack_22 (Nat.le_of_ble_eq_true rfl) rfl ?_
    refine mf_iload_n 0 dX6_readTrack_23 rfl ?_
    refine mf_iconst (v := -1) dX6_readTrack_24 rfl ?_
    refine mf_jo1 (pj := 41) (lvj := fun w3 => [(0, .ref 25), (1, .ref 1), (2, .int v2)]) (stj := fun w3 => [.int w3]) (fun w3 => ?_) (fun J41 hJ41 => ?_)
    · show MF rI (yX6_readTrack.cls, cX6_readTrack, 6, (some .boolean), yX6_readTrack.name, d + 5, 0, 0) 41 [(0, .ref 25), (1, .ref 1), (2, .int v2)] [.int w3] q _
      refine mf_istore_n [(3, .int w3), (0, .ref 25), (1, .ref 1), (2, .int v2)] dX6_readTrack_41 (Nat.le_of_ble_eq_true rfl) rfl ?_
      refine mf_iload_n 0 dX6_readTrack_42 rfl ?_
      refine mf_iconst (v := -1) dX6_readTrack_43 rfl ?_
      refine mf_icmp_ne (tgt := 49) dX6_readTrack_44 (by decide) ?_ ?_
      · refine mf_iload_n 3 dX6_readTrack_49 rfl ?_
        refine mf_iload_n 0 dX6_readTrack_50 rfl ?_
        refine mf_icmp_eq (tgt := 67) dX6_readTrack_51 (by decide) ?_ ?_
        · refine mf_aload_n 2 dX6_readTrack_67 rfl ?_
          refine mf_iconst (v := 3) dX6_readTrack_68 rfl ?_
          refine mf_cVi (rest := []) [.int 3] (aX10_wrong (d + 3) q hq 3) mY_X10_wrong dX6_readTrack_69 ml_X6_82 (tx_o (w_tx hq)) rfl rfl (Nat.le_of_ble_eq_true rfl) rfl (fun v4 => ?_)
          exact mf_zreturn dX6_readTrack_72 rfl ⟨rfl, rfl⟩
        · refine mf_aload_n 1 dX6_readTrack_54 rfl ?_
          refine mf_getr 6 0 dX6_readTrack_55 fl_X6_12 (by decide) (by decide) rfl (rd_o (w_rd hq)) (rd_r0 (w_rd hq)) (by decide) ?_
          refine mf_iload_n 3 dX6_readTrack_58 rfl ?_
          refine mf_iload_n 0 dX6_readTrack_59 rfl ?_
          refine mf_cVi (rest := []) [.int v2, .int w3] (aX5_trackBetween (d + 3) q hq 26 v2 w3 pl26) mY_X5_trackBetween dX6_readTrack_60 ml_X6_123 (pl_o (w_pl hq pl26)) rfl rfl (Nat.le_of_ble_eq_true rfl) rfl (fun v5 => ?_)
          refine mf_iconst (v := -1) dX6_readTrack_63 rfl ?_
          refine mf_icmp_eq (tgt := 73) dX6_readTrack_64 (by decide) ?_ ?_
          · refine mf_iconst (v := -1) dX6_readTrack_73 rfl ?_
            refine mf_istore [(4, .int (-1)), (3, .int w3), (0, .ref 25), (1, .ref 1), (2, .int v2)] dX6_readTrack_74 (Nat.le_of_ble_eq_true rfl) rfl ?_
            refine mf_iconst (v := 0) dX6_readTrack_76 rfl ?_
            refine mf_istore [(5, .int 0), (4, .int (-1)), (3, .int w3), (0, .ref 25), (1, .ref 1), (2, .int v2)] dX6_readTrack_77 (Nat.le_of_ble_eq_true rfl) rfl ?_
            refine mf_aload_n 4 dX6_readTrack_79 rfl ?_
            refine mf_cVv (rest := []) [] (aX10_next (d + 1) q hq) mY_X10_next dX6_readTrack_80 ml_X6_35 (tx_o (w_tx hq)) rfl rfl (Nat.le_of_ble_eq_true rfl) rfl (fun _ => ?_)
            refine mf_aload_n 4 dX6_readTrack_83 rfl ?_
            refine mf_bipush (v := 59) dX6_readTrack_84 (by decide) ?_
            refine mf_cVi (rest := []) [.int 59] (aX10_isSign (d + 3) q hq 59) mY_X10_isSign dX6_readTrack_86 ml_X6_126 (tx_o (w_tx hq)) rfl rfl (Nat.le_of_ble_eq_true rfl) rfl (fun v6 => ?_)
            refine mf_if_ne (tgt := 131) dX6_readTrack_89 (by decide) ?_ ?_
            · refine mf_aload_n 3 dX6_readTrack_131 rfl ?_
              refine mf_iload_n 5 dX6_readTrack_132 rfl ?_
              refine mf_iload_n 2 dX6_readTrack_133 rfl ?_
              refine mf_iload 1 dX6_readTrack_134 rfl ?_
              refine mf_iload 0 dX6_readTrack_136 rfl ?_
              refine mf_cVv (rest := []) [.int v2, .int w3, .int (-1), .int 0] (aX6_addTrack (d + 3) q hq v2 w3 (-1) 0) mY_X6_addTrack dX6_readTrack_138 ml_X6_137 (rd_o (w_rd hq)) rfl rfl (Nat.le_of_ble_eq_true rfl) rfl (fun _ => ?_)
              refine mf_iconst (v := 1) dX6_readTrack_141 rfl ?_
              exact mf_ireturn dX6_readTrack_142 rfl rfl ⟨rfl, rfl⟩
            · refine mf_aload_n 3 dX6_readTrack_92 rfl ?_
              refine mf_aload_n 4 dX6_readTrack_93 rfl ?_
              refine mf_iload_n 5 dX6_readTrack_94 rfl ?_
              refine mf_iload_n 2 dX6_readTrack_95 rfl ?_
              refine mf_cVi (rest := []) [.ref 1, .int v2, .int w3] (aX6_readPointsBy (d + 1) q hq v2 w3) mY_X6_readPointsBy dX6_readTrack_96 ml_X6_129 (rd_o (w_rd hq)) rfl rfl (Nat.le_of_ble_eq_true rfl) rfl (fun v7 => ?_)
              refine mf_istore [(4, .int v7), (5, .int 0), (3, .int w3), (0, .ref 25), (1, .ref 1), (2, .int v2)] dX6_readTrack_99 (Nat.le_of_ble_eq_true rfl) rfl ?_
              refine mf_iload 0 dX6_readTrack_101 rfl ?_
              refine mf_iconst (v := -1) dX6_readTrack_103 rfl ?_
              refine mf_jo1 (pj := 117) (lvj := fun w8 => [(0, .ref 25), (1, .ref 1), (2, .int v2), (3, .int w3), (4, .int v7)]) (stj := fun w8 => [.int w8]) (fun w8 => ?_) (fun J117 hJ117 => ?_)
              · show MF rI (yX6_readTrack.cls, cX6_readTrack, 6, (some .boolean), yX6_readTrack.name, d + 5, 0, 0) 117 [(0, .ref 25), (1, .ref 1), (2, .int v2), (3, .int w3), (4, .int v7)] [.int w8] q _
                refine mf_istore [(5, .int w8), (0, .ref 25), (1, .ref 1), (2, .int v2), (3, .int w3), (4, .int v7)] dX6_readTrack_117 (Nat.le_of_ble_eq_true rfl) rfl ?_
                refine mf_iload 0 dX6_readTrack_119 rfl ?_
                refine mf_iconst (v := -1) dX6_readTrack_121 rfl ?_
                refine mf_icmp_ne (tgt := 127) dX6_readTrack_122 (by decide) ?_ ?_
                · refine mf_aload_n 2 dX6_readTrack_127 rfl ?_
                  refine mf_cVv (rest := []) [] (aX10_next (d + 1) q hq) mY_X10_next dX6_readTrack_128 ml_X6_35 (tx_o (w_tx hq)) rfl rfl (Nat.le_of_ble_eq_true rfl) rfl (fun _ => ?_)
                  refine mf_aload_n 1 dX6_readTrack_131 rfl ?_
                  refine mf_iload_n 3 dX6_readTrack_132 rfl ?_
                  refine mf_iload_n 4 dX6_readTrack_133 rfl ?_
                  refine mf_iload 5 dX6_readTrack_134 rfl ?_
                  refine mf_iload 0 dX6_readTrack_136 rfl ?_
                  refine mf_cVv (rest := []) [.int v2, .int w3, .int v7, .int w8] (aX6_addTrack (d + 3) q hq v2 w3 v7 w8) mY_X6_addTrack dX6_readTrack_138 ml_X6_137 (rd_o (w_rd hq)) rfl rfl (Nat.le_of_ble_eq_true rfl) rfl (fun _ => ?_)
                  refine mf_iconst (v := 1) dX6_readTrack_141 rfl ?_
                  exact mf_ireturn dX6_readTrack_142 rfl rfl ⟨rfl, rfl⟩
                · refine mf_iconst (v := 0) dX6_readTrack_125 rfl ?_
                  exact mf_ireturn dX6_readTrack_126 rfl rfl ⟨rfl, rfl⟩
              refine mf_icmp_ne (tgt := 111) dX6_readTrack_104 (by decide) ?_ ?_
              · refine mf_aload_n 4 dX6_readTrack_111 rfl ?_
                refine mf_bipush (v := 9) dX6_readTrack_112 (by decide) ?_
                refine mf_cVi (rest := []) [.int 9] (aX10_nextOfTwo (d + 0) q hq 9) mY_X10_nextOfTwo dX6_readTrack_114 ml_X6_133 (tx_o (w_tx hq)) rfl rfl (Nat.le_of_ble_eq_true rfl) rfl (fun v9 => ?_)
                refine mf_sub [3, 4, 5, 2, 0] rfl ?_
                exact hJ117 _
              · refine mf_iconst (v := -1) dX6_readTrack_107 rfl ?_
                refine mf_goto (tgt := 117) dX6_readTrack_108 (by decide) ?_
                refine mf_sub [3, 4, 5, 2, 0] rfl ?_
                exact hJ117 _
          · refine mf_aload_n 2 dX6_readTrack_67 rfl ?_
            refine mf_iconst (v := 3) dX6_readTrack_68 rfl ?_
            refine mf_cVi (rest := []) [.int 3] (aX10_wrong (d + 3) q hq 3) mY_X10_wrong dX6_readTrack_69 ml_X6_82 (tx_o (w_tx hq)) rfl rfl (Nat.le_of_ble_eq_true rfl) rfl (fun v10 => ?_)
            exact mf_zreturn dX6_readTrack_72 rfl ⟨rfl, rfl⟩
      · refine mf_iconst (v := 0) dX6_readTrack_47 rfl ?_
        exact mf_ireturn dX6_readTrack_48 rfl rfl ⟨rfl, rfl⟩
    refine mf_icmp_ne (tgt := 32) dX6_readTrack_25 (by decide) ?_ ?_
    · refine mf_aload_n 2 dX6_readTrack_32 rfl ?_
      refine mf_aload_n 1 dX6_readTrack_33 rfl ?_
      refine mf_getr 6 0 dX6_readTrack_34 fl_X6_12 (by decide) (by decide) rfl (rd_o (w_rd hq)) (rd_r0 (w_rd hq)) (by decide) ?_
      refine mf_iconst (v := 0) dX6_readTrack_37 rfl ?_
      refine mf_cVi (rest := []) [.ref 26, .int 0] (aX10_nextNamed (d + 0) q hq 26 0 pl26) mY_X10_nextNamed dX6_readTrack_38 ml_X6_116 (tx_o (w_tx hq)) rfl rfl (Nat.le_of_ble_eq_true rfl) rfl (fun v11 => ?_)
      refine mf_sub [1, 2, 0] rfl ?_
      exact hJ41 _
    · refine mf_iconst (v := -1) dX6_readTrack_28 rfl ?_
      refine mf_goto (tgt := 41) dX6_readTrack_29 (by decide) ?_
      refine mf_sub [1, 2, 0] rfl ?_
      exact hJ41 _
  · refine mf_iconst (v := 0) dX6_readTrack_11 rfl ?_
    exact mf_ireturn dX6_readTrack_12 rfl rfl ⟨rfl, rfl⟩
set_option maxRecDepth 100000 in
set_option maxHeartbeats 4000000 in
theorem aX6_readSignal (d : Nat) (q : m_S) (hq : isW q)  : AC rI yX6_readSignal cX6_readSignal 7 (some .boolean) (d + 5) [.ref 25, .ref 1] q (fX6_readSignal ) := by
  refine ac_of (by decide +kernel) (Nat.le_of_ble_eq_true rfl) ?_
  unfold fX6_readSignal
  show MF rI (yX6_readSignal.cls, cX6_readSignal, 7, (some .boolean), yX6_readSignal.name, d + 5, 0, 0) 0 [(0, .ref 25), (1, .ref 1)] [] q _
  refine mf_aload_n 0 dX6_readSignal_0 rfl ?_
  refine mf_aload_n 1 dX6_readSignal_1 rfl ?_
  refine mf_iconst (v := 3) dX6_readSignal_2 rfl ?_
  refine mf_bipush (v := 8) dX6_readSignal_3 (by decide) ?_
  refine mf_cVi (rest := []) [.ref 1, .int 3, .int 8] (aX6_hasRoom (d + 2) q hq 3 8) mY_X6_hasRoom dX6_readSignal_5 ml_X6_90 (rd_o (w_rd hq)) rfl rfl (Nat.le_of_ble_eq_true rfl) rfl (fun v1 => ?_)
  refine mf_if_eq (tgt := 22) dX6_readSignal_8 (by decide) ?_ ?_
  · refine mf_iconst (v := 0) dX6_readSignal_22 rfl ?_
    exact mf_ireturn dX6_readSignal_23 rfl rfl ⟨rfl, rfl⟩
  · refine mf_aload_n 1 dX6_readSignal_11 rfl ?_
    refine mf_aload_n 0 dX6_readSignal_12 rfl ?_
    refine mf_getr 6 0 dX6_readSignal_13 fl_X6_12 (by decide) (by decide) rfl (rd_o (w_rd hq)) (rd_r0 (w_rd hq)) (by decide) ?_
    refine mf_cVi (rest := []) [.ref 26] (aX10_nextNewName (d + 0) q hq 26 pl26) mY_X10_nextNewName dX6_readSignal_16 ml_X6_94 (tx_o (w_tx hq)) rfl rfl (Nat.le_of_ble_eq_true rfl) rfl (fun v2 => ?_)
    refine mf_if_ne (tgt := 24) dX6_readSignal_19 (by decide) ?_ ?_
    · refine mf_aload_n 1 dX6_readSignal_24 rfl ?_
      refine mf_getl 10 7 dX6_readSignal_25 fl_X6_98 (by decide) (by decide) rfl (tx_o (w_tx hq)) (fun v3 => ?_)
      refine mf_lstore_n [(2, .long v3), (0, .ref 25), (1, .ref 1)] dX6_readSignal_28 (Nat.le_of_ble_eq_true rfl) rfl ?_
      refine mf_aload_n 2 dX6_readSignal_29 rfl ?_
      refine mf_aload_n 1 dX6_readSignal_30 rfl ?_
      refine mf_getr 6 0 dX6_readSignal_31 fl_X6_12 (by decide) (by decide) rfl (rd_o (w_rd hq)) (rd_r0 (w_rd hq)) (by decide) ?_
      refine mf_iconst (v := 0) dX6_readSignal_34 rfl ?_
      refine mf_cVi (rest := []) [.ref 26, .int 0] (aX10_nextNamed (d + 0) q hq 26 0 pl26) mY_X10_nextNamed dX6_readSignal_35 ml_X6_116 (tx_o (w_tx hq)) rfl rfl (Nat.le_of_ble_eq_true rfl) rfl (fun v4 => ?_)
      refine mf_istore [(4, .int v4), (2, .long v3), (0, .ref 25), (1, .ref 1)] dX6_readSignal_38 (Nat.le_of_ble_eq_true rfl) rfl ?_
      refine mf_iload 0 dX6_readSignal_40 rfl ?_
      refine mf_iconst (v := -1) dX6_readSignal_42 rfl ?_
      refine mf_jo1 (pj := 56) (lvj := fun w5 => [(0, .ref 25), (1, .ref 1), (2, .long v3), (4, .int v4)]) (stj := fun w5 => [.int w5]) (fun w5 => ?_) (fun J56 hJ56 => ?_)
      · show MF rI (yX6_readSignal.cls, cX6_readSignal, 7, (some .boolean), yX6_readSignal.name, d + 5, 0, 0) 56 [(0, .ref 25), (1, .ref 1), (2, .long v3), (4, .int v4)] [.int w5] q _
        refine mf_istore [(5, .int w5), (0, .ref 25), (1, .ref 1), (2, .long v3), (4, .int v4)] dX6_readSignal_56 (Nat.le_of_ble_eq_true rfl) rfl ?_
        refine mf_iload 0 dX6_readSignal_58 rfl ?_
        refine mf_iconst (v := -1) dX6_readSignal_60 rfl ?_
        refine mf_icmp_ne (tgt := 66) dX6_readSignal_61 (by decide) ?_ ?_
        · refine mf_aload_n 1 dX6_readSignal_66 rfl ?_
          refine mf_getr 6 0 dX6_readSignal_67 fl_X6_12 (by decide) (by decide) rfl (rd_o (w_rd hq)) (rd_r0 (w_rd hq)) (by decide) ?_
          refine mf_iload 4 dX6_readSignal_70 rfl ?_
          refine mf_iload 0 dX6_readSignal_72 rfl ?_
          refine mf_cVi (rest := []) [.int v4, .int w5] (aX5_signalAt (d + 3) q hq 26 v4 w5 pl26) mY_X5_signalAt dX6_readSignal_74 ml_X6_156 (pl_o (w_pl hq pl26)) rfl rfl (Nat.le_of_ble_eq_true rfl) rfl (fun v6 => ?_)
          refine mf_iconst (v := -1) dX6_readSignal_77 rfl ?_
          refine mf_icmp_eq (tgt := 87) dX6_readSignal_78 (by decide) ?_ ?_
          · refine mf_aload_n 1 dX6_readSignal_87 rfl ?_
            refine mf_getr 6 0 dX6_readSignal_88 fl_X6_12 (by decide) (by decide) rfl (rd_o (w_rd hq)) (rd_r0 (w_rd hq)) (by decide) ?_
            refine mf_iconst (v := 3) dX6_readSignal_91 rfl ?_
            refine mf_lload_n 3 dX6_readSignal_92 rfl ?_
            refine mf_cVi (rest := []) [.int 3, .long v3] (aX5_addOne (d + 3) q hq 26 3 v3 pl26) mY_X5_addOne dX6_readSignal_93 ml_X6_109 (pl_o (w_pl hq pl26)) rfl rfl (Nat.le_of_ble_eq_true rfl) rfl (fun v7 => ?_)
            refine mf_istore [(6, .int v7), (5, .int w5), (0, .ref 25), (1, .ref 1), (2, .long v3), (4, .int v4)] dX6_readSignal_96 (Nat.le_of_ble_eq_true rfl) rfl ?_
            refine mf_aload_n 2 dX6_readSignal_98 rfl ?_
            refine mf_getr 6 0 dX6_readSignal_99 fl_X6_12 (by decide) (by decide) rfl (rd_o (w_rd hq)) (rd_r0 (w_rd hq)) (by decide) ?_
            refine mf_getr 5 8 dX6_readSignal_102 fl_X6_159 (by decide) (by decide) rfl (pl_o (w_pl hq pl26)) (pl_r8 (w_pl hq pl26)) (by decide) ?_
            refine mf_iload 0 dX6_readSignal_105 rfl ?_
            refine mf_iload 5 dX6_readSignal_107 rfl ?_
            refine mf_iast dX6_readSignal_109 (pl_a8 (w_pl hq pl26)) ?_
            refine mf_aload_n 2 dX6_readSignal_110 rfl ?_
            refine mf_getr 6 0 dX6_readSignal_111 fl_X6_12 (by decide) (by decide) rfl (rd_o (w_rd hq)) (rd_r0 (w_rd hq)) (by decide) ?_
            refine mf_getr 5 9 dX6_readSignal_114 fl_X6_162 (by decide) (by decide) rfl (pl_o (w_pl hq pl26)) (pl_r9 (w_pl hq pl26)) (by decide) ?_
            refine mf_iload 0 dX6_readSignal_117 rfl ?_
            refine mf_iload 1 dX6_readSignal_119 rfl ?_
            refine mf_iast dX6_readSignal_121 (pl_a9 (w_pl hq pl26)) ?_
            refine mf_aload_n 3 dX6_readSignal_122 rfl ?_
            refine mf_cSi (rest := []) [.ref 1] (aX6_goOn (d + 0) q hq) mY_X6_goOn dX6_readSignal_123 ml_X6_113 rfl rfl (Nat.le_of_ble_eq_true rfl) rfl (fun v8 => ?_)
            exact mf_zreturn dX6_readSignal_126 rfl ⟨rfl, rfl⟩
          · refine mf_aload_n 2 dX6_readSignal_81 rfl ?_
            refine mf_iconst (v := 3) dX6_readSignal_82 rfl ?_
            refine mf_cVi (rest := []) [.int 3] (aX10_wrong (d + 3) q hq 3) mY_X10_wrong dX6_readSignal_83 ml_X6_82 (tx_o (w_tx hq)) rfl rfl (Nat.le_of_ble_eq_true rfl) rfl (fun v9 => ?_)
            exact mf_zreturn dX6_readSignal_86 rfl ⟨rfl, rfl⟩
        · refine mf_iconst (v := 0) dX6_readSignal_64 rfl ?_
          exact mf_ireturn dX6_readSignal_65 rfl rfl ⟨rfl, rfl⟩
      refine mf_icmp_ne (tgt := 50) dX6_readSignal_43 (by decide) ?_ ?_
      · refine mf_aload_n 3 dX6_readSignal_50 rfl ?_
        refine mf_bipush (v := 11) dX6_readSignal_51 (by decide) ?_
        refine mf_cVi (rest := []) [.int 11] (aX10_nextOfTwo (d + 0) q hq 11) mY_X10_nextOfTwo dX6_readSignal_53 ml_X6_133 (tx_o (w_tx hq)) rfl rfl (Nat.le_of_ble_eq_true rfl) rfl (fun v10 => ?_)
        refine mf_sub [2, 3, 1, 0] rfl ?_
        exact hJ56 _
      · refine mf_iconst (v := -1) dX6_readSignal_46 rfl ?_
        refine mf_goto (tgt := 56) dX6_readSignal_47 (by decide) ?_
        refine mf_sub [2, 3, 1, 0] rfl ?_
        exact hJ56 _
    · refine mf_iconst (v := 0) dX6_readSignal_22 rfl ?_
      exact mf_ireturn dX6_readSignal_23 rfl rfl ⟨rfl, rfl⟩
set_option maxRecDepth 100000 in
set_option maxHeartbeats 4000000 in
theorem aX6_readRoute (d : Nat) (q : m_S) (hq : isW q)  : AC rI yX6_readRoute cX6_readRoute 6 (some .boolean) (d + 5) [.ref 25, .ref 1] q (fX6_readRoute ) := by
  refine ac_of (by decide +kernel) (Nat.le_of_ble_eq_true rfl) ?_
  unfold fX6_readRoute
  show MF rI (yX6_readRoute.cls, cX6_readRoute, 6, (some .boolean), yX6_readRoute.name, d + 5, 0, 0) 0 [(0, .ref 25), (1, .ref 1)] [] q _
  refine mf_aload_n 0 dX6_readRoute_0 rfl ?_
  refine mf_aload_n 1 dX6_readRoute_1 rfl ?_
  refine mf_iconst (v := 4) dX6_readRoute_2 rfl ?_
  refine mf_bipush (v := 10) dX6_readRoute_3 (by decide) ?_
  refine mf_cVi (rest := []) [.ref 1, .int 4, .int 10] (aX6_hasRoom (d + 2) q hq 4 10) mY_X6_hasRoom dX6_readRoute_5 ml_X6_90 (rd_o (w_rd hq)) rfl rfl (Nat.le_of_ble_eq_true rfl) rfl (fun v1 => ?_)
  refine mf_if_eq (tgt := 22) dX6_readRoute_8 (by decide) ?_ ?_
  · refine mf_iconst (v := 0) dX6_readRoute_22 rfl ?_
    exact mf_ireturn dX6_readRoute_23 rfl rfl ⟨rfl, rfl⟩
  · refine mf_aload_n 1 dX6_readRoute_11 rfl ?_
    refine mf_aload_n 0 dX6_readRoute_12 rfl ?_
    refine mf_getr 6 0 dX6_readRoute_13 fl_X6_12 (by decide) (by decide) rfl (rd_o (w_rd hq)) (rd_r0 (w_rd hq)) (by decide) ?_
    refine mf_cVi (rest := []) [.ref 26] (aX10_nextNewName (d + 0) q hq 26 pl26) mY_X10_nextNewName dX6_readRoute_16 ml_X6_94 (tx_o (w_tx hq)) rfl rfl (Nat.le_of_ble_eq_true rfl) rfl (fun v2 => ?_)
    refine mf_if_ne (tgt := 24) dX6_readRoute_19 (by decide) ?_ ?_
    · refine mf_aload_n 1 dX6_readRoute_24 rfl ?_
      refine mf_getl 10 7 dX6_readRoute_25 fl_X6_98 (by decide) (by decide) rfl (tx_o (w_tx hq)) (fun v3 => ?_)
      refine mf_lstore_n [(2, .long v3), (0, .ref 25), (1, .ref 1)] dX6_readRoute_28 (Nat.le_of_ble_eq_true rfl) rfl ?_
      refine mf_aload_n 2 dX6_readRoute_29 rfl ?_
      refine mf_aload_n 1 dX6_readRoute_30 rfl ?_
      refine mf_getr 6 0 dX6_readRoute_31 fl_X6_12 (by decide) (by decide) rfl (rd_o (w_rd hq)) (rd_r0 (w_rd hq)) (by decide) ?_
      refine mf_iconst (v := 3) dX6_readRoute_34 rfl ?_
      refine mf_cVi (rest := []) [.ref 26, .int 3] (aX10_nextNamed (d + 0) q hq 26 3 pl26) mY_X10_nextNamed dX6_readRoute_35 ml_X6_116 (tx_o (w_tx hq)) rfl rfl (Nat.le_of_ble_eq_true rfl) rfl (fun v4 => ?_)
      refine mf_istore [(4, .int v4), (2, .long v3), (0, .ref 25), (1, .ref 1)] dX6_readRoute_38 (Nat.le_of_ble_eq_true rfl) rfl ?_
      refine mf_iload 0 dX6_readRoute_40 rfl ?_
      refine mf_iconst (v := -1) dX6_readRoute_42 rfl ?_
      refine mf_icmp_ne (tgt := 48) dX6_readRoute_43 (by decide) ?_ ?_
      · refine mf_aload_n 2 dX6_readRoute_48 rfl ?_
        refine mf_getr 6 0 dX6_readRoute_49 fl_X6_12 (by decide) (by decide) rfl (rd_o (w_rd hq)) (rd_r0 (w_rd hq)) (by decide) ?_
        refine mf_iconst (v := 4) dX6_readRoute_52 rfl ?_
        refine mf_lload_n 1 dX6_readRoute_53 rfl ?_
        refine mf_cVi (rest := []) [.int 4, .long v3] (aX5_addOne (d + 3) q hq 26 4 v3 pl26) mY_X5_addOne dX6_readRoute_54 ml_X6_109 (pl_o (w_pl hq pl26)) rfl rfl (Nat.le_of_ble_eq_true rfl) rfl (fun v5 => ?_)
        refine mf_istore [(5, .int v5), (4, .int v4), (2, .long v3), (0, .ref 25), (1, .ref 1)] dX6_readRoute_57 (Nat.le_of_ble_eq_true rfl) rfl ?_
        refine mf_aload_n 3 dX6_readRoute_59 rfl ?_
        refine mf_getr 6 0 dX6_readRoute_60 fl_X6_12 (by decide) (by decide) rfl (rd_o (w_rd hq)) (rd_r0 (w_rd hq)) (by decide) ?_
        refine mf_getr 5 10 dX6_readRoute_63 fl_X6_165 (by decide) (by decide) rfl (pl_o (w_pl hq pl26)) (pl_r10 (w_pl hq pl26)) (by decide) ?_
        refine mf_iload 0 dX6_readRoute_66 rfl ?_
        refine mf_iload 1 dX6_readRoute_68 rfl ?_
        refine mf_iast dX6_readRoute_70 (pl_a10 (w_pl hq pl26)) ?_
        refine mf_aload_n 3 dX6_readRoute_71 rfl ?_
        refine mf_getr 6 0 dX6_readRoute_72 fl_X6_12 (by decide) (by decide) rfl (rd_o (w_rd hq)) (rd_r0 (w_rd hq)) (by decide) ?_
        refine mf_getr 5 11 dX6_readRoute_75 fl_X6_168 (by decide) (by decide) rfl (pl_o (w_pl hq pl26)) (pl_r11 (w_pl hq pl26)) (by decide) ?_
        refine mf_iload 0 dX6_readRoute_78 rfl ?_
        refine mf_iconst (v := 0) dX6_readRoute_80 rfl ?_
        refine mf_iast dX6_readRoute_81 (pl_a11 (w_pl hq pl26)) ?_
        refine mf_aload_n 3 dX6_readRoute_82 rfl ?_
        refine mf_getr 6 0 dX6_readRoute_83 fl_X6_12 (by decide) (by decide) rfl (rd_o (w_rd hq)) (rd_r0 (w_rd hq)) (by decide) ?_
        refine mf_getr 5 13 dX6_readRoute_86 fl_X6_171 (by decide) (by decide) rfl (pl_o (w_pl hq pl26)) (pl_r13 (w_pl hq pl26)) (by decide) ?_
        refine mf_iload 0 dX6_readRoute_89 rfl ?_
        refine mf_iconst (v := 0) dX6_readRoute_91 rfl ?_
        refine mf_iast dX6_readRoute_92 (pl_a13 (w_pl hq pl26)) ?_
        refine mf_aload_n 3 dX6_readRoute_93 rfl ?_
        refine mf_getr 6 0 dX6_readRoute_94 fl_X6_12 (by decide) (by decide) rfl (rd_o (w_rd hq)) (rd_r0 (w_rd hq)) (by decide) ?_
        refine mf_getr 5 14 dX6_readRoute_97 fl_X6_174 (by decide) (by decide) rfl (pl_o (w_pl hq pl26)) (pl_r14 (w_pl hq pl26)) (by decide) ?_
        refine mf_iload 0 dX6_readRoute_100 rfl ?_
        refine mf_iconst (v := 0) dX6_readRoute_102 rfl ?_
        refine mf_iast dX6_readRoute_103 (pl_a14 (w_pl hq pl26)) ?_
        refine mf_aload_n 3 dX6_readRoute_104 rfl ?_
        refine mf_getr 6 0 dX6_readRoute_105 fl_X6_12 (by decide) (by decide) rfl (rd_o (w_rd hq)) (rd_r0 (w_rd hq)) (by decide) ?_
        refine mf_getr 5 15 dX6_readRoute_108 fl_X6_177 (by decide) (by decide) rfl (pl_o (w_pl hq pl26)) (pl_r15 (w_pl hq pl26)) (by decide) ?_
        refine mf_iload 0 dX6_readRoute_111 rfl ?_
        refine mf_iconst (v := 0) dX6_readRoute_113 rfl ?_
        refine mf_iast dX6_readRoute_114 (pl_a15 (w_pl hq pl26)) ?_
        refine mf_aload_n 3 dX6_readRoute_115 rfl ?_
        refine mf_getr 6 0 dX6_readRoute_116 fl_X6_12 (by decide) (by decide) rfl (rd_o (w_rd hq)) (rd_r0 (w_rd hq)) (by decide) ?_
        refine mf_getr 5 16 dX6_readRoute_119 fl_X6_180 (by decide) (by decide) rfl (pl_o (w_pl hq pl26)) (pl_r16 (w_pl hq pl26)) (by decide) ?_
        refine mf_iload 0 dX6_readRoute_122 rfl ?_
        refine mf_iconst (v := 0) dX6_readRoute_124 rfl ?_
        refine mf_iast dX6_readRoute_125 (pl_a16 (w_pl hq pl26)) ?_
        refine mf_aload_n 4 dX6_readRoute_126 rfl ?_
        refine mf_cSi (rest := []) [.ref 1] (aX6_goOn (d + 0) q hq) mY_X6_goOn dX6_readRoute_127 ml_X6_113 rfl rfl (Nat.le_of_ble_eq_true rfl) rfl (fun v6 => ?_)
        exact mf_zreturn dX6_readRoute_130 rfl ⟨rfl, rfl⟩
      · refine mf_iconst (v := 0) dX6_readRoute_46 rfl ?_
        exact mf_ireturn dX6_readRoute_47 rfl rfl ⟨rfl, rfl⟩
    · refine mf_iconst (v := 0) dX6_readRoute_22 rfl ?_
      exact mf_ireturn dX6_readRoute_23 rfl rfl ⟨rfl, rfl⟩
set_option maxRecDepth 100000 in
set_option maxHeartbeats 4000000 in
theorem aX6_readLock (d : Nat) (q : m_S) (hq : isW q)  : AC rI yX6_readLock cX6_readLock 4 (some .boolean) (d + 5) [.ref 25, .ref 1] q (fX6_readLock ) := by
  refine ac_of (by decide +kernel) (Nat.le_of_ble_eq_true rfl) ?_
  unfold fX6_readLock
  show MF rI (yX6_readLock.cls, cX6_readLock, 4, (some .boolean), yX6_readLock.name, d + 5, 0, 0) 0 [(0, .ref 25), (1, .ref 1)] [] q _
  refine mf_aload_n 1 dX6_readLock_0 rfl ?_
  refine mf_aload_n 0 dX6_readLock_1 rfl ?_
  refine mf_getr 6 0 dX6_readLock_2 fl_X6_12 (by decide) (by decide) rfl (rd_o (w_rd hq)) (rd_r0 (w_rd hq)) (by decide) ?_
  refine mf_iconst (v := 4) dX6_readLock_5 rfl ?_
  refine mf_cVi (rest := []) [.ref 26, .int 4] (aX10_nextNamed (d + 0) q hq 26 4 pl26) mY_X10_nextNamed dX6_readLock_6 ml_X6_116 (tx_o (w_tx hq)) rfl rfl (Nat.le_of_ble_eq_true rfl) rfl (fun v1 => ?_)
  refine mf_istore_n [(2, .int v1), (0, .ref 25), (1, .ref 1)] dX6_readLock_9 (Nat.le_of_ble_eq_true rfl) rfl ?_
  refine mf_iload_n 0 dX6_readLock_10 rfl ?_
  refine mf_iconst (v := -1) dX6_readLock_11 rfl ?_
  refine mf_jo1 (pj := 28) (lvj := fun w2 => [(0, .ref 25), (1, .ref 1), (2, .int v1)]) (stj := fun w2 => [.int w2]) (fun w2 => ?_) (fun J28 hJ28 => ?_)
  · show MF rI (yX6_readLock.cls, cX6_readLock, 4, (some .boolean), yX6_readLock.name, d + 5, 0, 0) 28 [(0, .ref 25), (1, .ref 1), (2, .int v1)] [.int w2] q _
    refine mf_istore_n [(3, .int w2), (0, .ref 25), (1, .ref 1), (2, .int v1)] dX6_readLock_28 (Nat.le_of_ble_eq_true rfl) rfl ?_
    refine mf_iload_n 0 dX6_readLock_29 rfl ?_
    refine mf_iconst (v := -1) dX6_readLock_30 rfl ?_
    refine mf_icmp_ne (tgt := 36) dX6_readLock_31 (by decide) ?_ ?_
    · refine mf_iload_n 3 dX6_readLock_36 rfl ?_
      refine mf_iload_n 0 dX6_readLock_37 rfl ?_
      refine mf_icmp_eq (tgt := 58) dX6_readLock_38 (by decide) ?_ ?_
      · refine mf_aload_n 2 dX6_readLock_58 rfl ?_
        refine mf_iconst (v := 3) dX6_readLock_59 rfl ?_
        refine mf_cVi (rest := []) [.int 3] (aX10_wrong (d + 3) q hq 3) mY_X10_wrong dX6_readLock_60 ml_X6_82 (tx_o (w_tx hq)) rfl rfl (Nat.le_of_ble_eq_true rfl) rfl (fun v3 => ?_)
        exact mf_zreturn dX6_readLock_63 rfl ⟨rfl, rfl⟩
      · refine mf_aload_n 1 dX6_readLock_41 rfl ?_
        refine mf_getr 6 0 dX6_readLock_42 fl_X6_12 (by decide) (by decide) rfl (rd_o (w_rd hq)) (rd_r0 (w_rd hq)) (by decide) ?_
        refine mf_getr 5 16 dX6_readLock_45 fl_X6_180 (by decide) (by decide) rfl (pl_o (w_pl hq pl26)) (pl_r16 (w_pl hq pl26)) (by decide) ?_
        refine mf_iload_n 3 dX6_readLock_48 rfl ?_
        refine mf_iald dX6_readLock_49 (pl_a16 (w_pl hq pl26)) (fun v4 => ?_)
        refine mf_iload_n 0 dX6_readLock_50 rfl ?_
        refine mf_ishr dX6_readLock_51 ?_
        refine mf_iconst (v := 1) dX6_readLock_52 rfl ?_
        refine mf_iand dX6_readLock_53 ?_
        refine mf_iconst (v := 1) dX6_readLock_54 rfl ?_
        refine mf_icmp_ne (tgt := 64) dX6_readLock_55 (by decide) ?_ ?_
        · refine mf_aload_n 1 dX6_readLock_64 rfl ?_
          refine mf_getr 6 0 dX6_readLock_65 fl_X6_12 (by decide) (by decide) rfl (rd_o (w_rd hq)) (rd_r0 (w_rd hq)) (by decide) ?_
          refine mf_getr 5 16 dX6_readLock_68 fl_X6_180 (by decide) (by decide) rfl (pl_o (w_pl hq pl26)) (pl_r16 (w_pl hq pl26)) (by decide) ?_
          refine mf_iload_n 3 dX6_readLock_71 rfl ?_
          refine mf_dup2 dX6_readLock_72 rfl rfl ?_
          refine mf_iald dX6_readLock_73 (pl_a16 (w_pl hq pl26)) (fun v5 => ?_)
          refine mf_iconst (v := 1) dX6_readLock_74 rfl ?_
          refine mf_iload_n 0 dX6_readLock_75 rfl ?_
          refine mf_ishl dX6_readLock_76 ?_
          refine mf_ior dX6_readLock_77 ?_
          refine mf_iast dX6_readLock_78 (pl_a16 (w_pl hq pl26)) ?_
          refine mf_aload_n 1 dX6_readLock_79 rfl ?_
          refine mf_getr 6 0 dX6_readLock_80 fl_X6_12 (by decide) (by decide) rfl (rd_o (w_rd hq)) (rd_r0 (w_rd hq)) (by decide) ?_
          refine mf_getr 5 16 dX6_readLock_83 fl_X6_180 (by decide) (by decide) rfl (pl_o (w_pl hq pl26)) (pl_r16 (w_pl hq pl26)) (by decide) ?_
          refine mf_iload_n 0 dX6_readLock_86 rfl ?_
          refine mf_dup2 dX6_readLock_87 rfl rfl ?_
          refine mf_iald dX6_readLock_88 (pl_a16 (w_pl hq pl26)) (fun v6 => ?_)
          refine mf_iconst (v := 1) dX6_readLock_89 rfl ?_
          refine mf_iload_n 3 dX6_readLock_90 rfl ?_
          refine mf_ishl dX6_readLock_91 ?_
          refine mf_ior dX6_readLock_92 ?_
          refine mf_iast dX6_readLock_93 (pl_a16 (w_pl hq pl26)) ?_
          refine mf_aload_n 1 dX6_readLock_94 rfl ?_
          refine mf_getr 6 0 dX6_readLock_95 fl_X6_12 (by decide) (by decide) rfl (rd_o (w_rd hq)) (rd_r0 (w_rd hq)) (by decide) ?_
          refine mf_getr 5 0 dX6_readLock_98 fl_X6_86 (by decide) (by decide) rfl (pl_o (w_pl hq pl26)) (pl_r0 (w_pl hq pl26)) (by decide) ?_
          refine mf_iconst (v := 5) dX6_readLock_101 rfl ?_
          refine mf_dup2 dX6_readLock_102 rfl rfl ?_
          refine mf_iald dX6_readLock_103 (pl_a0 (w_pl hq pl26)) (fun v7 => ?_)
          refine mf_iconst (v := 1) dX6_readLock_104 rfl ?_
          refine mf_iadd dX6_readLock_105 ?_
          refine mf_iast dX6_readLock_106 (pl_a0 (w_pl hq pl26)) ?_
          refine mf_aload_n 2 dX6_readLock_107 rfl ?_
          refine mf_cSi (rest := []) [.ref 1] (aX6_goOn (d + 0) q hq) mY_X6_goOn dX6_readLock_108 ml_X6_113 rfl rfl (Nat.le_of_ble_eq_true rfl) rfl (fun v8 => ?_)
          exact mf_zreturn dX6_readLock_111 rfl ⟨rfl, rfl⟩
        · refine mf_aload_n 2 dX6_readLock_58 rfl ?_
          refine mf_iconst (v := 3) dX6_readLock_59 rfl ?_
          refine mf_cVi (rest := []) [.int 3] (aX10_wrong (d + 3) q hq 3) mY_X10_wrong dX6_readLock_60 ml_X6_82 (tx_o (w_tx hq)) rfl rfl (Nat.le_of_ble_eq_true rfl) rfl (fun v9 => ?_)
          exact mf_zreturn dX6_readLock_63 rfl ⟨rfl, rfl⟩
    · refine mf_iconst (v := 0) dX6_readLock_34 rfl ?_
      exact mf_ireturn dX6_readLock_35 rfl rfl ⟨rfl, rfl⟩
  refine mf_icmp_ne (tgt := 19) dX6_readLock_12 (by decide) ?_ ?_
  · refine mf_aload_n 2 dX6_readLock_19 rfl ?_
    refine mf_aload_n 1 dX6_readLock_20 rfl ?_
    refine mf_getr 6 0 dX6_readLock_21 fl_X6_12 (by decide) (by decide) rfl (rd_o (w_rd hq)) (rd_r0 (w_rd hq)) (by decide) ?_
    refine mf_iconst (v := 4) dX6_readLock_24 rfl ?_
    refine mf_cVi (rest := []) [.ref 26, .int 4] (aX10_nextNamed (d + 0) q hq 26 4 pl26) mY_X10_nextNamed dX6_readLock_25 ml_X6_116 (tx_o (w_tx hq)) rfl rfl (Nat.le_of_ble_eq_true rfl) rfl (fun v10 => ?_)
    refine mf_sub [1, 2, 0] rfl ?_
    exact hJ28 _
  · refine mf_iconst (v := -1) dX6_readLock_15 rfl ?_
    refine mf_goto (tgt := 28) dX6_readLock_16 (by decide) ?_
    refine mf_sub [1, 2, 0] rfl ?_
    exact hJ28 _
set_option maxRecDepth 100000 in
set_option maxHeartbeats 4000000 in
theorem aX6_readTrain (d : Nat) (q : m_S) (hq : isW q)  : AC rI yX6_readTrain cX6_readTrain 7 (some .boolean) (d + 5) [.ref 25, .ref 1] q (fX6_readTrain ) := by
  refine ac_of (by decide +kernel) (Nat.le_of_ble_eq_true rfl) ?_
  unfold fX6_readTrain
  show MF rI (yX6_readTrain.cls, cX6_readTrain, 7, (some .boolean), yX6_readTrain.name, d + 5, 0, 0) 0 [(0, .ref 25), (1, .ref 1)] [] q _
  refine mf_aload_n 0 dX6_readTrain_0 rfl ?_
  refine mf_aload_n 1 dX6_readTrain_1 rfl ?_
  refine mf_bipush (v := 6) dX6_readTrain_2 (by decide) ?_
  refine mf_iconst (v := 5) dX6_readTrain_4 rfl ?_
  refine mf_cVi (rest := []) [.ref 1, .int 6, .int 5] (aX6_hasRoom (d + 2) q hq 6 5) mY_X6_hasRoom dX6_readTrain_5 ml_X6_90 (rd_o (w_rd hq)) rfl rfl (Nat.le_of_ble_eq_true rfl) rfl (fun v1 => ?_)
  refine mf_if_eq (tgt := 22) dX6_readTrain_8 (by decide) ?_ ?_
  · refine mf_iconst (v := 0) dX6_readTrain_22 rfl ?_
    exact mf_ireturn dX6_readTrain_23 rfl rfl ⟨rfl, rfl⟩
  · refine mf_aload_n 1 dX6_readTrain_11 rfl ?_
    refine mf_aload_n 0 dX6_readTrain_12 rfl ?_
    refine mf_getr 6 0 dX6_readTrain_13 fl_X6_12 (by decide) (by decide) rfl (rd_o (w_rd hq)) (rd_r0 (w_rd hq)) (by decide) ?_
    refine mf_cVi (rest := []) [.ref 26] (aX10_nextNewName (d + 0) q hq 26 pl26) mY_X10_nextNewName dX6_readTrain_16 ml_X6_94 (tx_o (w_tx hq)) rfl rfl (Nat.le_of_ble_eq_true rfl) rfl (fun v2 => ?_)
    refine mf_if_ne (tgt := 24) dX6_readTrain_19 (by decide) ?_ ?_
    · refine mf_aload_n 1 dX6_readTrain_24 rfl ?_
      refine mf_getl 10 7 dX6_readTrain_25 fl_X6_98 (by decide) (by decide) rfl (tx_o (w_tx hq)) (fun v3 => ?_)
      refine mf_lstore_n [(2, .long v3), (0, .ref 25), (1, .ref 1)] dX6_readTrain_28 (Nat.le_of_ble_eq_true rfl) rfl ?_
      refine mf_aload_n 2 dX6_readTrain_29 rfl ?_
      refine mf_aload_n 1 dX6_readTrain_30 rfl ?_
      refine mf_getr 6 0 dX6_readTrain_31 fl_X6_12 (by decide) (by decide) rfl (rd_o (w_rd hq)) (rd_r0 (w_rd hq)) (by decide) ?_
      refine mf_iconst (v := 0) dX6_readTrain_34 rfl ?_
      refine mf_cVi (rest := []) [.ref 26, .int 0] (aX10_nextNamed (d + 0) q hq 26 0 pl26) mY_X10_nextNamed dX6_readTrain_35 ml_X6_116 (tx_o (w_tx hq)) rfl rfl (Nat.le_of_ble_eq_true rfl) rfl (fun v4 => ?_)
      refine mf_istore [(4, .int v4), (2, .long v3), (0, .ref 25), (1, .ref 1)] dX6_readTrain_38 (Nat.le_of_ble_eq_true rfl) rfl ?_
      refine mf_iload 0 dX6_readTrain_40 rfl ?_
      refine mf_iconst (v := -1) dX6_readTrain_42 rfl ?_
      refine mf_icmp_ne (tgt := 48) dX6_readTrain_43 (by decide) ?_ ?_
      · refine mf_iconst (v := 0) dX6_readTrain_48 rfl ?_
        refine mf_istore [(5, .int 0), (4, .int v4), (2, .long v3), (0, .ref 25), (1, .ref 1)] dX6_readTrain_49 (Nat.le_of_ble_eq_true rfl) rfl ?_
        refine mf_sub [3, 4, 2, 1, 0] rfl ?_
        refine mf_lz1 (lv := fun x5 => [(0, .ref 25), (1, .ref 1), (2, .long v3), (4, .int v4), (5, .int x5)]) (fun L51 h51 x5 => ?_) _ _
        show MF rI (yX6_readTrain.cls, cX6_readTrain, 7, (some .boolean), yX6_readTrain.name, d + 5, 0, 0) 51 [(0, .ref 25), (1, .ref 1), (2, .long v3), (4, .int v4), (5, .int x5)] [] q _
        refine mf_iload 4 dX6_readTrain_51 rfl ?_
        refine mf_aload_n 0 dX6_readTrain_53 rfl ?_
        refine mf_getr 6 0 dX6_readTrain_54 fl_X6_12 (by decide) (by decide) rfl (rd_o (w_rd hq)) (rd_r0 (w_rd hq)) (by decide) ?_
        refine mf_getr 5 0 dX6_readTrain_57 fl_X6_86 (by decide) (by decide) rfl (pl_o (w_pl hq pl26)) (pl_r0 (w_pl hq pl26)) (by decide) ?_
        refine mf_bipush (v := 6) dX6_readTrain_60 (by decide) ?_
        refine mf_iald dX6_readTrain_62 (pl_a0 (w_pl hq pl26)) (fun v6 => ?_)
        refine mf_icmp_ge (tgt := 93) dX6_readTrain_63 (by decide) ?_ ?_
        · refine mf_aload_n 1 dX6_readTrain_93 rfl ?_
          refine mf_bipush (v := 11) dX6_readTrain_94 (by decide) ?_
          refine mf_cVi (rest := []) [.int 11] (aX10_nextOfTwo (d + 0) q hq 11) mY_X10_nextOfTwo dX6_readTrain_96 ml_X6_133 (tx_o (w_tx hq)) rfl rfl (Nat.le_of_ble_eq_true rfl) rfl (fun v7 => ?_)
          refine mf_istore [(5, .int v7), (0, .ref 25), (1, .ref 1), (2, .long v3), (4, .int v4)] dX6_readTrain_99 (Nat.le_of_ble_eq_true rfl) rfl ?_
          refine mf_iload 0 dX6_readTrain_101 rfl ?_
          refine mf_iconst (v := -1) dX6_readTrain_103 rfl ?_
          refine mf_icmp_ne (tgt := 109) dX6_readTrain_104 (by decide) ?_ ?_
          · refine mf_aload_n 1 dX6_readTrain_109 rfl ?_
            refine mf_getr 6 0 dX6_readTrain_110 fl_X6_12 (by decide) (by decide) rfl (rd_o (w_rd hq)) (rd_r0 (w_rd hq)) (by decide) ?_
            refine mf_bipush (v := 6) dX6_readTrain_113 (by decide) ?_
            refine mf_lload_n 3 dX6_readTrain_115 rfl ?_
            refine mf_cVi (rest := []) [.int 6, .long v3] (aX5_addOne (d + 3) q hq 26 6 v3 pl26) mY_X5_addOne dX6_readTrain_116 ml_X6_109 (pl_o (w_pl hq pl26)) rfl rfl (Nat.le_of_ble_eq_true rfl) rfl (fun v8 => ?_)
            refine mf_istore [(6, .int v8), (5, .int v7), (0, .ref 25), (1, .ref 1), (2, .long v3), (4, .int v4)] dX6_readTrain_119 (Nat.le_of_ble_eq_true rfl) rfl ?_
            refine mf_aload_n 2 dX6_readTrain_121 rfl ?_
            refine mf_getr 6 0 dX6_readTrain_122 fl_X6_12 (by decide) (by decide) rfl (rd_o (w_rd hq)) (rd_r0 (w_rd hq)) (by decide) ?_
            refine mf_getr 5 18 dX6_readTrain_125 fl_X6_201 (by decide) (by decide) rfl (pl_o (w_pl hq pl26)) (pl_r18 (w_pl hq pl26)) (by decide) ?_
            refine mf_iload 0 dX6_readTrain_128 rfl ?_
            refine mf_iload 5 dX6_readTrain_130 rfl ?_
            refine mf_iast dX6_readTrain_132 (pl_a18 (w_pl hq pl26)) ?_
            refine mf_aload_n 2 dX6_readTrain_133 rfl ?_
            refine mf_getr 6 0 dX6_readTrain_134 fl_X6_12 (by decide) (by decide) rfl (rd_o (w_rd hq)) (rd_r0 (w_rd hq)) (by decide) ?_
            refine mf_getr 5 19 dX6_readTrain_137 fl_X6_204 (by decide) (by decide) rfl (pl_o (w_pl hq pl26)) (pl_r19 (w_pl hq pl26)) (by decide) ?_
            refine mf_iload 0 dX6_readTrain_140 rfl ?_
            refine mf_iload 1 dX6_readTrain_142 rfl ?_
            refine mf_iast dX6_readTrain_144 (pl_a19 (w_pl hq pl26)) ?_
            refine mf_aload_n 3 dX6_readTrain_145 rfl ?_
            refine mf_cSi (rest := []) [.ref 1] (aX6_goOn (d + 0) q hq) mY_X6_goOn dX6_readTrain_146 ml_X6_113 rfl rfl (Nat.le_of_ble_eq_true rfl) rfl (fun v9 => ?_)
            exact mf_zreturn dX6_readTrain_149 rfl ⟨rfl, rfl⟩
          · refine mf_iconst (v := 0) dX6_readTrain_107 rfl ?_
            exact mf_ireturn dX6_readTrain_108 rfl rfl ⟨rfl, rfl⟩
        · refine mf_aload_n 0 dX6_readTrain_66 rfl ?_
          refine mf_getr 6 0 dX6_readTrain_67 fl_X6_12 (by decide) (by decide) rfl (rd_o (w_rd hq)) (rd_r0 (w_rd hq)) (by decide) ?_
          refine mf_getr 5 18 dX6_readTrain_70 fl_X6_201 (by decide) (by decide) rfl (pl_o (w_pl hq pl26)) (pl_r18 (w_pl hq pl26)) (by decide) ?_
          refine mf_iload 4 dX6_readTrain_73 rfl ?_
          refine mf_iald dX6_readTrain_75 (pl_a18 (w_pl hq pl26)) (fun v10 => ?_)
          refine mf_iload 3 dX6_readTrain_76 rfl ?_
          refine mf_icmp_ne (tgt := 87) dX6_readTrain_78 (by decide) ?_ ?_
          · refine mf_iinc 4 (x5 + 1) [(5, .int (x5 + 1)), (0, .ref 25), (1, .ref 1), (2, .long v3), (4, .int v4)] dX6_readTrain_87 rfl rfl (Nat.le_of_ble_eq_true rfl) rfl ?_
            refine mf_goto (tgt := 51) dX6_readTrain_90 (by decide) ?_
            refine mf_sub [1, 2, 3, 4, 0] rfl ?_
            exact h51 _
          · refine mf_aload_n 1 dX6_readTrain_81 rfl ?_
            refine mf_iconst (v := 3) dX6_readTrain_82 rfl ?_
            refine mf_cVi (rest := []) [.int 3] (aX10_wrong (d + 3) q hq 3) mY_X10_wrong dX6_readTrain_83 ml_X6_82 (tx_o (w_tx hq)) rfl rfl (Nat.le_of_ble_eq_true rfl) rfl (fun v11 => ?_)
            exact mf_zreturn dX6_readTrain_86 rfl ⟨rfl, rfl⟩
      · refine mf_iconst (v := 0) dX6_readTrain_46 rfl ?_
        exact mf_ireturn dX6_readTrain_47 rfl rfl ⟨rfl, rfl⟩
    · refine mf_iconst (v := 0) dX6_readTrain_22 rfl ?_
      exact mf_ireturn dX6_readTrain_23 rfl rfl ⟨rfl, rfl⟩
set_option maxRecDepth 100000 in
set_option maxHeartbeats 4000000 in
theorem aX6_readHold (d : Nat) (q : m_S) (hq : isW q)  : AC rI yX6_readHold cX6_readHold 3 (some .boolean) (d + 5) [.ref 25, .ref 1] q (fX6_readHold ) := by
  refine ac_of (by decide +kernel) (Nat.le_of_ble_eq_true rfl) ?_
  unfold fX6_readHold
  show MF rI (yX6_readHold.cls, cX6_readHold, 3, (some .boolean), yX6_readHold.name, d + 5, 0, 0) 0 [(0, .ref 25), (1, .ref 1)] [] q _
  refine mf_aload_n 0 dX6_readHold_0 rfl ?_
  refine mf_geti 6 2 dX6_readHold_1 fl_X6_22 (by decide) (by decide) rfl (rd_o (w_rd hq)) (fun v1 => ?_)
  refine mf_if_eq (tgt := 13) dX6_readHold_4 (by decide) ?_ ?_
  · refine mf_aload_n 1 dX6_readHold_13 rfl ?_
    refine mf_iconst (v := 1) dX6_readHold_14 rfl ?_
    refine mf_bipush (v := 30) dX6_readHold_15 (by decide) ?_
    refine mf_cVi (rest := []) [.int 1, .int 30] (aX10_nextNumber (d + 0) q hq 1 30) mY_X10_nextNumber dX6_readHold_17 ml_X6_102 (tx_o (w_tx hq)) rfl rfl (Nat.le_of_ble_eq_true rfl) rfl (fun v2 => ?_)
    refine mf_istore_n [(2, .int v2), (0, .ref 25), (1, .ref 1)] dX6_readHold_20 (Nat.le_of_ble_eq_true rfl) rfl ?_
    refine mf_iload_n 0 dX6_readHold_21 rfl ?_
    refine mf_iconst (v := -1) dX6_readHold_22 rfl ?_
    refine mf_icmp_ne (tgt := 28) dX6_readHold_23 (by decide) ?_ ?_
    · refine mf_aload_n 1 dX6_readHold_28 rfl ?_
      refine mf_iconst (v := 1) dX6_readHold_29 rfl ?_
      refine mf_putzc 6 2 dX6_readHold_30 fl_X6_22 (by decide) (by decide) rfl rfl (rd_o (w_rd hq)) (by decide) ?_
      refine mf_aload_n 1 dX6_readHold_33 rfl ?_
      refine mf_getr 6 0 dX6_readHold_34 fl_X6_12 (by decide) (by decide) rfl (rd_o (w_rd hq)) (rd_r0 (w_rd hq)) (by decide) ?_
      refine mf_getr 5 0 dX6_readHold_37 fl_X6_86 (by decide) (by decide) rfl (pl_o (w_pl hq pl26)) (pl_r0 (w_pl hq pl26)) (by decide) ?_
      refine mf_bipush (v := 7) dX6_readHold_40 (by decide) ?_
      refine mf_iload_n 0 dX6_readHold_42 rfl ?_
      refine mf_iast dX6_readHold_43 (pl_a0 (w_pl hq pl26)) ?_
      refine mf_aload_n 2 dX6_readHold_44 rfl ?_
      refine mf_cSi (rest := []) [.ref 1] (aX6_goOn (d + 0) q hq) mY_X6_goOn dX6_readHold_45 ml_X6_113 rfl rfl (Nat.le_of_ble_eq_true rfl) rfl (fun v3 => ?_)
      exact mf_zreturn dX6_readHold_48 rfl ⟨rfl, rfl⟩
    · refine mf_iconst (v := 0) dX6_readHold_26 rfl ?_
      exact mf_ireturn dX6_readHold_27 rfl rfl ⟨rfl, rfl⟩
  · refine mf_aload_n 1 dX6_readHold_7 rfl ?_
    refine mf_iconst (v := 3) dX6_readHold_8 rfl ?_
    refine mf_cVi (rest := []) [.int 3] (aX10_wrong (d + 3) q hq 3) mY_X10_wrong dX6_readHold_9 ml_X6_82 (tx_o (w_tx hq)) rfl rfl (Nat.le_of_ble_eq_true rfl) rfl (fun v4 => ?_)
    exact mf_zreturn dX6_readHold_12 rfl ⟨rfl, rfl⟩
