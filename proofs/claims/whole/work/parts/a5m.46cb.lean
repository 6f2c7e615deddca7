set_option maxRecDepth 100000 in
set_option maxHeartbeats 4000000 in
theorem aX1_walk (d : Nat) (q : m_S) (hq : isW q) (a1 : Int32) (a2 : Int32) (a3 : Int32) : AC rU yX1_walk cX1_walk 8 none (d + 5) [.ref 141, .ref 4, .int a1, .int a2, .int a3] q (fX1_walk a1 a2 a3) := by
  refine ac_of (by decide +kernel) (Nat.le_of_ble_eq_true rfl) ?_
  unfold fX1_walk
  show MF rU (yX1_walk.cls, cX1_walk, 8, none, yX1_walk.name, d + 5, 0, 0) 0 [(0, .ref 141), (1, .ref 4), (2, .int a1), (3, .int a2), (4, .int a3)] [] q _
  refine mf_iload_n 2 dX1_walk_0 rfl ?_
  refine mf_istore [(5, .int a1), (0, .ref 141), (1, .ref 4), (2, .int a1), (3, .int a2), (4, .int a3)] dX1_walk_1 (Nat.le_of_ble_eq_true rfl) rfl ?_
  refine mf_aload_n 1 dX1_walk_3 rfl ?_
  refine mf_iconst (v := 0) dX1_walk_4 rfl ?_
  refine mf_puti 1 3 dX1_walk_5 fl_X1_22 (by decide) (by decide) rfl rfl (co_o (w_co hq)) ?_
  refine mf_aload_n 1 dX1_walk_8 rfl ?_
  refine mf_getr 1 4 dX1_walk_9 fl_X1_25 (by decide) (by decide) rfl (co_o (w_co hq)) (co_r4 (w_co hq)) (by decide) ?_
  refine mf_iload 0 dX1_walk_12 rfl ?_
  refine mf_iald dX1_walk_14 (co_a4 (w_co hq)) (fun v1 => ?_)
  refine mf_istore [(6, .int v1), (5, .int a1), (0, .ref 141), (1, .ref 4), (2, .int a1), (3, .int a2), (4, .int a3)] dX1_walk_15 (Nat.le_of_ble_eq_true rfl) rfl ?_
  refine mf_sub [2, 3, 5, 6, 1, 0] rfl ?_
  refine mf_lz2 (lv := fun x2 x3 => [(0, .ref 141), (1, .ref 4), (3, .int a2), (4, .int a3), (5, .int x2), (6, .int x3)]) (fun L17 h17 x2 x3 => ?_) _ _ _
  show MF rU (yX1_walk.cls, cX1_walk, 8, none, yX1_walk.name, d + 5, 0, 0) 17 [(0, .ref 141), (1, .ref 4), (3, .int a2), (4, .int a3), (5, .int x2), (6, .int x3)] [] q _
  refine mf_iload 5 dX1_walk_17 rfl ?_
  refine mf_if_le (tgt := 88) dX1_walk_19 (by decide) ?_ ?_
  · exact mf_return dX1_walk_88 rfl ⟨rfl, rfl⟩
  · refine mf_aload_n 0 dX1_walk_22 rfl ?_
    refine mf_geti 1 3 dX1_walk_23 fl_X1_22 (by decide) (by decide) rfl (co_o (w_co hq)) (fun v4 => ?_)
    refine mf_aload_n 0 dX1_walk_26 rfl ?_
    refine mf_getr 1 2 dX1_walk_27 fl_X1_19 (by decide) (by decide) rfl (co_o (w_co hq)) (co_r2 (w_co hq)) (by decide) ?_
    refine mf_alen (t := 0) (by decide) dX1_walk_30 (co_a2 (w_co hq)) ?_
    refine mf_icmp_ge (tgt := 88) dX1_walk_31 (by decide) ?_ ?_
    · exact mf_return dX1_walk_88 rfl ⟨rfl, rfl⟩
    · refine mf_aload_n 0 dX1_walk_34 rfl ?_
      refine mf_aload_n 1 dX1_walk_35 rfl ?_
      refine mf_iload 4 dX1_walk_36 rfl ?_
      refine mf_iload_n 2 dX1_walk_38 rfl ?_
      refine mf_iload 3 dX1_walk_39 rfl ?_
      refine mf_cVi (rest := []) [.ref 4, .int x2, .int a2, .int a3] (aX1_leastStep (d + 0) q hq x2 a2 a3) mY_X1_leastStep dX1_walk_41 ml_X1_120 (co_o (w_co hq)) rfl rfl (Nat.le_of_ble_eq_true rfl) rfl (fun v5 => ?_)
      refine mf_istore [(7, .int v5), (0, .ref 141), (1, .ref 4), (3, .int a2), (4, .int a3), (5, .int x2), (6, .int x3)] dX1_walk_44 (Nat.le_of_ble_eq_true rfl) rfl ?_
      refine mf_iload 0 dX1_walk_46 rfl ?_
      refine mf_iconst (v := -1) dX1_walk_48 rfl ?_
      refine mf_icmp_ne (tgt := 53) dX1_walk_49 (by decide) ?_ ?_
      · refine mf_aload_n 1 dX1_walk_53 rfl ?_
        refine mf_getr 1 2 dX1_walk_54 fl_X1_19 (by decide) (by decide) rfl (co_o (w_co hq)) (co_r2 (w_co hq)) (by decide) ?_
        refine mf_aload_n 1 dX1_walk_57 rfl ?_
        refine mf_geti 1 3 dX1_walk_58 fl_X1_22 (by decide) (by decide) rfl (co_o (w_co hq)) (fun v6 => ?_)
        refine mf_iload 0 dX1_walk_61 rfl ?_
        refine mf_iast dX1_walk_63 (co_a2 (w_co hq)) ?_
        refine mf_aload_n 1 dX1_walk_64 rfl ?_
        refine mf_dup dX1_walk_65 rfl ?_
        refine mf_geti 1 3 dX1_walk_66 fl_X1_22 (by decide) (by decide) rfl (co_o (w_co hq)) (fun v7 => ?_)
        refine mf_iconst (v := 1) dX1_walk_69 rfl ?_
        refine mf_iadd dX1_walk_70 ?_
        refine mf_puti 1 3 dX1_walk_71 fl_X1_22 (by decide) (by decide) rfl rfl (co_o (w_co hq)) ?_
        refine mf_aload_n 2 dX1_walk_74 rfl ?_
        refine mf_iload 0 dX1_walk_75 rfl ?_
        refine mf_cVi (rest := []) [.int v5] (aX5_endOf (d + 2) q hq 4 v5 pl4) mY_X5_endOf dX1_walk_77 ml_X1_93 (pl_o (w_pl hq pl4)) rfl rfl (Nat.le_of_ble_eq_true rfl) rfl (fun v8 => ?_)
        refine mf_istore [(5, .int v8), (7, .int v5), (0, .ref 141), (1, .ref 4), (3, .int a2), (4, .int a3), (6, .int x3)] dX1_walk_80 (Nat.le_of_ble_eq_true rfl) rfl ?_
        refine mf_iinc 6 (x3 + (-1)) [(6, .int (x3 + (-1))), (5, .int v8), (7, .int v5), (0, .ref 141), (1, .ref 4), (3, .int a2), (4, .int a3)] dX1_walk_82 rfl rfl (Nat.le_of_ble_eq_true rfl) rfl ?_
        refine mf_goto (tgt := 17) dX1_walk_85 (by decide) ?_
        refine mf_sub [3, 4, 5, 6, 1, 0] rfl ?_
        exact h17 _ _
      · exact mf_return dX1_walk_52 rfl ⟨rfl, rfl⟩
set_option maxRecDepth 100000 in
set_option maxHeartbeats 4000000 in
theorem aX1_workOutPath (d : Nat) (q : m_S) (hq : isW q) (a1 : Int32) (a2 : Int32) : AC rI yX1_workOutPath cX1_workOutPath 7 (some .int) (d + 6) [.ref 141, .ref 4, .ref 47, .int a1, .int a2] q (fX1_workOutPath a1 a2) := by
  refine ac_of (by decide +kernel) (Nat.le_of_ble_eq_true rfl) ?_
  unfold fX1_workOutPath
  show MF rI (yX1_workOutPath.cls, cX1_workOutPath, 7, (some .int), yX1_workOutPath.name, d + 6, 0, 0) 0 [(0, .ref 141), (1, .ref 4), (2, .ref 47), (3, .int a1), (4, .int a2)] [] q _
  refine mf_aload_n 1 dX1_workOutPath_0 rfl ?_
  refine mf_bipush (v := 6) dX1_workOutPath_1 (by decide) ?_
  refine mf_iload_n 3 dX1_workOutPath_3 rfl ?_
  refine mf_cVi (rest := []) [.int 6, .int a1] (aX5_has (d + 4) q hq 4 6 a1 pl4) mY_X5_has dX1_workOutPath_4 ml_X1_31 (pl_o (w_pl hq pl4)) rfl rfl (Nat.le_of_ble_eq_true rfl) rfl (fun v1 => ?_)
  refine mf_if_eq (tgt := 30) dX1_workOutPath_7 (by decide) ?_ ?_
  · refine mf_iconst (v := -1) dX1_workOutPath_30 rfl ?_
    exact mf_ireturn dX1_workOutPath_31 rfl rfl ⟨rfl, rfl⟩
  · refine mf_aload_n 1 dX1_workOutPath_10 rfl ?_
    refine mf_iconst (v := 0) dX1_workOutPath_11 rfl ?_
    refine mf_iload 4 dX1_workOutPath_12 rfl ?_
    refine mf_cVi (rest := []) [.int 0, .int a2] (aX5_has (d + 4) q hq 4 0 a2 pl4) mY_X5_has dX1_workOutPath_14 ml_X1_31 (pl_o (w_pl hq pl4)) rfl rfl (Nat.le_of_ble_eq_true rfl) rfl (fun v2 => ?_)
    refine mf_if_eq (tgt := 30) dX1_workOutPath_17 (by decide) ?_ ?_
    · refine mf_iconst (v := -1) dX1_workOutPath_30 rfl ?_
      exact mf_ireturn dX1_workOutPath_31 rfl rfl ⟨rfl, rfl⟩
    · refine mf_aload_n 2 dX1_workOutPath_20 rfl ?_
      refine mf_getr 8 11 dX1_workOutPath_21 fl_X1_79 (by decide) (by decide) rfl (sa_o (w_st hq st47)) (sa_r11 (w_st hq st47)) (by decide) ?_
      refine mf_iload_n 3 dX1_workOutPath_24 rfl ?_
      refine mf_iald dX1_workOutPath_25 (sa_a11 (w_st hq st47)) (fun v3 => ?_)
      refine mf_iconst (v := -1) dX1_workOutPath_26 rfl ?_
      refine mf_icmp_ne (tgt := 32) dX1_workOutPath_27 (by decide) ?_ ?_
      · refine mf_aload_n 2 dX1_workOutPath_32 rfl ?_
        refine mf_getr 8 11 dX1_workOutPath_33 fl_X1_79 (by decide) (by decide) rfl (sa_o (w_st hq st47)) (sa_r11 (w_st hq st47)) (by decide) ?_
        refine mf_iload_n 3 dX1_workOutPath_36 rfl ?_
        refine mf_iald dX1_workOutPath_37 (sa_a11 (w_st hq st47)) (fun v4 => ?_)
        refine mf_istore [(5, .int v4), (0, .ref 141), (1, .ref 4), (2, .ref 47), (3, .int a1), (4, .int a2)] dX1_workOutPath_38 (Nat.le_of_ble_eq_true rfl) rfl ?_
        refine mf_iload 0 dX1_workOutPath_40 rfl ?_
        refine mf_iload 5 dX1_workOutPath_42 rfl ?_
        refine mf_icmp_ne (tgt := 54) dX1_workOutPath_44 (by decide) ?_ ?_
        · refine mf_aload_n 2 dX1_workOutPath_54 rfl ?_
          refine mf_getr 5 19 dX1_workOutPath_55 fl_X1_82 (by decide) (by decide) rfl (pl_o (w_pl hq pl4)) (pl_r19 (w_pl hq pl4)) (by decide) ?_
          refine mf_iload_n 4 dX1_workOutPath_58 rfl ?_
          refine mf_iald dX1_workOutPath_59 (pl_a19 (w_pl hq pl4)) (fun v5 => ?_)
          refine mf_istore [(6, .int v5), (5, .int v4), (0, .ref 141), (1, .ref 4), (2, .ref 47), (3, .int a1), (4, .int a2)] dX1_workOutPath_60 (Nat.le_of_ble_eq_true rfl) rfl ?_
          refine mf_aload_n 2 dX1_workOutPath_62 rfl ?_
          refine mf_aload_n 3 dX1_workOutPath_63 rfl ?_
          refine mf_iload 0 dX1_workOutPath_64 rfl ?_
          refine mf_iload 6 dX1_workOutPath_66 rfl ?_
          refine mf_cVv (rest := []) [.ref 4, .int v5, .int a2] (aX1_measure (d + 1) q hq v5 a2) mY_X1_measure dX1_workOutPath_68 ml_X1_85 (co_o (w_co hq)) rfl rfl (Nat.le_of_ble_eq_true rfl) rfl (fun _ => ?_)
          refine mf_aload_n 2 dX1_workOutPath_71 rfl ?_
          refine mf_getr 1 4 dX1_workOutPath_72 fl_X1_25 (by decide) (by decide) rfl (co_o (w_co hq)) (co_r4 (w_co hq)) (by decide) ?_
          refine mf_iload 1 dX1_workOutPath_75 rfl ?_
          refine mf_iald dX1_workOutPath_77 (co_a4 (w_co hq)) (fun v6 => ?_)
          refine mf_bipush (v := 100) dX1_workOutPath_78 (by decide) ?_
          refine mf_icmp_lt (tgt := 85) dX1_workOutPath_80 (by decide) ?_ ?_
          · refine mf_aload_n 2 dX1_workOutPath_85 rfl ?_
            refine mf_aload_n 3 dX1_workOutPath_86 rfl ?_
            refine mf_iload 1 dX1_workOutPath_87 rfl ?_
            refine mf_iload 0 dX1_workOutPath_89 rfl ?_
            refine mf_iload 6 dX1_workOutPath_91 rfl ?_
            refine mf_cVv (rest := []) [.ref 4, .int v4, .int v5, .int a2] (aX1_walk (d + 0) q hq v4 v5 a2) mY_X1_walk dX1_workOutPath_93 ml_X1_89 (co_o (w_co hq)) rfl rfl (Nat.le_of_ble_eq_true rfl) rfl (fun _ => ?_)
            refine mf_aload_n 2 dX1_workOutPath_96 rfl ?_
            refine mf_geti 1 3 dX1_workOutPath_97 fl_X1_22 (by decide) (by decide) rfl (co_o (w_co hq)) (fun v7 => ?_)
            exact mf_ireturn dX1_workOutPath_100 rfl rfl ⟨rfl, rfl⟩
          · refine mf_iconst (v := -1) dX1_workOutPath_83 rfl ?_
            exact mf_ireturn dX1_workOutPath_84 rfl rfl ⟨rfl, rfl⟩
        · refine mf_aload_n 1 dX1_workOutPath_47 rfl ?_
          refine mf_iconst (v := 0) dX1_workOutPath_48 rfl ?_
          refine mf_puti 1 3 dX1_workOutPath_49 fl_X1_22 (by decide) (by decide) rfl rfl (co_o (w_co hq)) ?_
          refine mf_iconst (v := 0) dX1_workOutPath_52 rfl ?_
          exact mf_ireturn dX1_workOutPath_53 rfl rfl ⟨rfl, rfl⟩
      · refine mf_iconst (v := -1) dX1_workOutPath_30 rfl ?_
        exact mf_ireturn dX1_workOutPath_31 rfl rfl ⟨rfl, rfl⟩
set_option maxRecDepth 100000 in
set_option maxHeartbeats 4000000 in
theorem aX1_stepAt (d : Nat) (q : m_S) (hq : isW q) (a1 : Int32) : AC rI yX1_stepAt cX1_stepAt 2 (some .int) (d + 1) [.ref 141, .int a1] q (fX1_stepAt a1) := by
  refine ac_of (by decide +kernel) (Nat.le_of_ble_eq_true rfl) ?_
  unfold fX1_stepAt
  show MF rI (yX1_stepAt.cls, cX1_stepAt, 2, (some .int), yX1_stepAt.name, d + 1, 0, 0) 0 [(0, .ref 141), (1, .int a1)] [] q _
  refine mf_iload_n 1 dX1_stepAt_0 rfl ?_
  refine mf_if_lt (tgt := 21) dX1_stepAt_1 (by decide) ?_ ?_
  · refine mf_iconst (v := -1) dX1_stepAt_21 rfl ?_
    exact mf_ireturn dX1_stepAt_22 rfl rfl ⟨rfl, rfl⟩
  · refine mf_iload_n 1 dX1_stepAt_4 rfl ?_
    refine mf_aload_n 0 dX1_stepAt_5 rfl ?_
    refine mf_geti 1 3 dX1_stepAt_6 fl_X1_22 (by decide) (by decide) rfl (co_o (w_co hq)) (fun v1 => ?_)
    refine mf_icmp_ge (tgt := 21) dX1_stepAt_9 (by decide) ?_ ?_
    · refine mf_iconst (v := -1) dX1_stepAt_21 rfl ?_
      exact mf_ireturn dX1_stepAt_22 rfl rfl ⟨rfl, rfl⟩
    · refine mf_aload_n 0 dX1_stepAt_12 rfl ?_
      refine mf_getr 1 2 dX1_stepAt_13 fl_X1_19 (by decide) (by decide) rfl (co_o (w_co hq)) (co_r2 (w_co hq)) (by decide) ?_
      refine mf_iload_n 1 dX1_stepAt_16 rfl ?_
      refine mf_iald dX1_stepAt_17 (co_a2 (w_co hq)) (fun v2 => ?_)
      refine mf_goto (tgt := 22) dX1_stepAt_18 (by decide) ?_
      exact mf_ireturn dX1_stepAt_22 rfl rfl ⟨rfl, rfl⟩
set_option maxRecDepth 100000 in
set_option maxHeartbeats 4000000 in
theorem bX1_placeRoute (d : Nat) (q : m_S) (hq : isW q) (fX1_placeRoute : Int32 → Int32 → Int32 → RM Int32) (hX1_placeRoute : ∀ a1 a2 a3, AC rI yX1_placeRoute cX1_placeRoute 7 (some .int) (d + 6) [.ref 141, .ref 4, .int a1, .int a2, .int a3] q (fX1_placeRoute a1 a2 a3)) (a1 : Int32) (a2 : Int32) (a3 : Int32) : AC rI yX1_placeRoute cX1_placeRoute 7 (some .int) (d + 7) [.ref 141, .ref 4, .int a1, .int a2, .int a3] q (gX1_placeRoute fX1_placeRoute a1 a2 a3) := by
  refine ac_of (by decide +kernel) (Nat.le_of_ble_eq_true rfl) ?_
  unfold gX1_placeRoute
  show MF rI (yX1_placeRoute.cls, cX1_placeRoute, 7, (some .int), yX1_placeRoute.name, d + 7, 0, 0) 0 [(0, .ref 141), (1, .ref 4), (2, .int a1), (3, .int a2), (4, .int a3)] [] q _
  refine mf_iload_n 3 dX1_placeRoute_0 rfl ?_
  refine mf_iload 4 dX1_placeRoute_1 rfl ?_
  refine mf_icmp_lt (tgt := 9) dX1_placeRoute_3 (by decide) ?_ ?_
  · refine mf_iload_n 2 dX1_placeRoute_9 rfl ?_
    refine mf_aload_n 1 dX1_placeRoute_10 rfl ?_
    refine mf_getr 5 0 dX1_placeRoute_11 fl_X1_59 (by decide) (by decide) rfl (pl_o (w_pl hq pl4)) (pl_r0 (w_pl hq pl4)) (by decide) ?_
    refine mf_iconst (v := 4) dX1_placeRoute_14 rfl ?_
    refine mf_iald dX1_placeRoute_15 (pl_a0 (w_pl hq pl4)) (fun v1 => ?_)
    refine mf_icmp_lt (tgt := 21) dX1_placeRoute_16 (by decide) ?_ ?_
    · refine mf_iload 4 dX1_placeRoute_21 rfl ?_
      refine mf_istore [(5, .int a3), (0, .ref 141), (1, .ref 4), (2, .int a1), (3, .int a2), (4, .int a3)] dX1_placeRoute_23 (Nat.le_of_ble_eq_true rfl) rfl ?_
      refine mf_iconst (v := 0) dX1_placeRoute_25 rfl ?_
      refine mf_istore [(6, .int 0), (5, .int a3), (0, .ref 141), (1, .ref 4), (2, .int a1), (3, .int a2), (4, .int a3)] dX1_placeRoute_26 (Nat.le_of_ble_eq_true rfl) rfl ?_
      refine mf_sub [2, 3, 4, 5, 1, 0] rfl ?_
      refine mf_lz2 (lv := fun x2 x3 => [(0, .ref 141), (1, .ref 4), (2, .int a1), (3, .int a2), (5, .int x2), (6, .int x3)]) (fun L28 h28 x2 x3 => ?_) _ _ _
      show MF rI (yX1_placeRoute.cls, cX1_placeRoute, 7, (some .int), yX1_placeRoute.name, d + 7, 0, 0) 28 [(0, .ref 141), (1, .ref 4), (2, .int a1), (3, .int a2), (5, .int x2), (6, .int x3)] [] q _
      refine mf_iload 5 dX1_placeRoute_28 rfl ?_
      refine mf_iload_n 3 dX1_placeRoute_30 rfl ?_
      refine mf_icmp_gt (tgt := 120) dX1_placeRoute_31 (by decide) ?_ ?_
      · refine mf_iload 4 dX1_placeRoute_120 rfl ?_
        exact mf_ireturn dX1_placeRoute_122 rfl rfl ⟨rfl, rfl⟩
      · refine mf_iload 5 dX1_placeRoute_34 rfl ?_
        refine mf_aload_n 0 dX1_placeRoute_36 rfl ?_
        refine mf_getr 1 5 dX1_placeRoute_37 fl_X1_28 (by decide) (by decide) rfl (co_o (w_co hq)) (co_r5 (w_co hq)) (by decide) ?_
        refine mf_alen (t := 0) (by decide) dX1_placeRoute_40 (co_a5 (w_co hq)) ?_
        refine mf_icmp_ge (tgt := 120) dX1_placeRoute_41 (by decide) ?_ ?_
        · refine mf_iload 4 dX1_placeRoute_120 rfl ?_
          exact mf_ireturn dX1_placeRoute_122 rfl rfl ⟨rfl, rfl⟩
        · refine mf_aload_n 0 dX1_placeRoute_44 rfl ?_
          refine mf_getr 1 5 dX1_placeRoute_45 fl_X1_28 (by decide) (by decide) rfl (co_o (w_co hq)) (co_r5 (w_co hq)) (by decide) ?_
          refine mf_iload 5 dX1_placeRoute_48 rfl ?_
          refine mf_iald dX1_placeRoute_50 (co_a5 (w_co hq)) (fun v4 => ?_)
          refine mf_aload_n 1 dX1_placeRoute_51 rfl ?_
          refine mf_getr 5 17 dX1_placeRoute_52 fl_X1_130 (by decide) (by decide) rfl (pl_o (w_pl hq pl4)) (pl_r17 (w_pl hq pl4)) (by decide) ?_
          refine mf_iload_n 2 dX1_placeRoute_55 rfl ?_
          refine mf_iald dX1_placeRoute_56 (pl_a17 (w_pl hq pl4)) (fun v5 => ?_)
          refine mf_iand dX1_placeRoute_57 ?_
          refine mf_if_ne (tgt := 114) dX1_placeRoute_58 (by decide) ?_ ?_
          · refine mf_iinc 5 (x3 + 1) [(6, .int (x3 + 1)), (0, .ref 141), (1, .ref 4), (2, .int a1), (3, .int a2), (5, .int x2)] dX1_placeRoute_114 rfl rfl (Nat.le_of_ble_eq_true rfl) rfl ?_
            refine mf_goto (tgt := 28) dX1_placeRoute_117 (by decide) ?_
            refine mf_sub [1, 2, 3, 4, 5, 0] rfl ?_
            exact h28 _ _
          · refine mf_aload_n 0 dX1_placeRoute_61 rfl ?_
            refine mf_getr 1 5 dX1_placeRoute_62 fl_X1_28 (by decide) (by decide) rfl (co_o (w_co hq)) (co_r5 (w_co hq)) (by decide) ?_
            refine mf_iload 5 dX1_placeRoute_65 rfl ?_
            refine mf_dup2 dX1_placeRoute_67 rfl rfl ?_
            refine mf_iald dX1_placeRoute_68 (co_a5 (w_co hq)) (fun v6 => ?_)
            refine mf_iconst (v := 1) dX1_placeRoute_69 rfl ?_
            refine mf_iload_n 2 dX1_placeRoute_70 rfl ?_
            refine mf_ishl dX1_placeRoute_71 ?_
            refine mf_ior dX1_placeRoute_72 ?_
            refine mf_iast dX1_placeRoute_73 (co_a5 (w_co hq)) ?_
            refine mf_aload_n 0 dX1_placeRoute_74 rfl ?_
            refine mf_aload_n 1 dX1_placeRoute_75 rfl ?_
            refine mf_iload_n 2 dX1_placeRoute_76 rfl ?_
            refine mf_iconst (v := 1) dX1_placeRoute_77 rfl ?_
            refine mf_iadd dX1_placeRoute_78 ?_
            refine mf_iload 5 dX1_placeRoute_79 rfl ?_
            refine mf_iload_n 3 dX1_placeRoute_81 rfl ?_
            refine mf_jo2 (pj := 92) (lvj := fun w7 w8 => [(0, .ref 141), (1, .ref 4), (2, .int a1), (3, .int a2), (5, .int x2), (6, .int x3)]) (stj := fun w7 w8 => [.int w7, .int w8, .ref 4, .ref 141]) (fun w7 w8 => ?_) (fun J92 hJ92 => ?_)
            · show MF rI (yX1_placeRoute.cls, cX1_placeRoute, 7, (some .int), yX1_placeRoute.name, d + 7, 0, 0) 92 [(0, .ref 141), (1, .ref 4), (2, .int a1), (3, .int a2), (5, .int x2), (6, .int x3)] [.int w7, .int w8, .ref 4, .ref 141] q _
              refine mf_iload 4 dX1_placeRoute_92 rfl ?_
              refine mf_cVi (rest := []) [.ref 4, .int w8, .int w7, .int x2] (hX1_placeRoute w8 w7 x2) mY_X1_placeRoute dX1_placeRoute_94 ml_X1_127 (co_o (w_co hq)) rfl rfl (Nat.le_of_ble_eq_true rfl) rfl (fun v9 => ?_)
              refine mf_istore [(5, .int v9), (0, .ref 141), (1, .ref 4), (2, .int a1), (3, .int a2), (6, .int x3)] dX1_placeRoute_97 (Nat.le_of_ble_eq_true rfl) rfl ?_
              refine mf_aload_n 1 dX1_placeRoute_99 rfl ?_
              refine mf_getr 1 5 dX1_placeRoute_100 fl_X1_28 (by decide) (by decide) rfl (co_o (w_co hq)) (co_r5 (w_co hq)) (by decide) ?_
              refine mf_iload 5 dX1_placeRoute_103 rfl ?_
              refine mf_dup2 dX1_placeRoute_105 rfl rfl ?_
              refine mf_iald dX1_placeRoute_106 (co_a5 (w_co hq)) (fun v10 => ?_)
              refine mf_iconst (v := 1) dX1_placeRoute_107 rfl ?_
              refine mf_iload_n 3 dX1_placeRoute_108 rfl ?_
              refine mf_ishl dX1_placeRoute_109 ?_
              refine mf_iconst (v := -1) dX1_placeRoute_110 rfl ?_
              refine mf_ixor dX1_placeRoute_111 ?_
              refine mf_iand dX1_placeRoute_112 ?_
              refine mf_iast dX1_placeRoute_113 (co_a5 (w_co hq)) ?_
              refine mf_iinc 5 (x3 + 1) [(6, .int (x3 + 1)), (5, .int v9), (0, .ref 141), (1, .ref 4), (2, .int a1), (3, .int a2)] dX1_placeRoute_114 rfl rfl (Nat.le_of_ble_eq_true rfl) rfl ?_
              refine mf_goto (tgt := 28) dX1_placeRoute_117 (by decide) ?_
              refine mf_sub [2, 3, 4, 5, 1, 0] rfl ?_
              exact h28 _ _
            refine mf_icmp_ne (tgt := 91) dX1_placeRoute_82 (by decide) ?_ ?_
            · refine mf_iload_n 3 dX1_placeRoute_91 rfl ?_
              exact hJ92 _ _
            · refine mf_iload_n 3 dX1_placeRoute_85 rfl ?_
              refine mf_iconst (v := 1) dX1_placeRoute_86 rfl ?_
              refine mf_iadd dX1_placeRoute_87 ?_
              refine mf_goto (tgt := 92) dX1_placeRoute_88 (by decide) ?_
              exact hJ92 _ _
    · refine mf_iload_n 3 dX1_placeRoute_19 rfl ?_
      exact mf_ireturn dX1_placeRoute_20 rfl rfl ⟨rfl, rfl⟩
  · refine mf_iload 4 dX1_placeRoute_6 rfl ?_
    exact mf_ireturn dX1_placeRoute_8 rfl rfl ⟨rfl, rfl⟩
theorem aP (d : Nat) (q : m_S) (hq : isW q) : ∀ (n : Nat) (a b c : Int32), AC rI yX1_placeRoute cX1_placeRoute 7 (some .int) (d + n + 6) [.ref 141, .ref 4, .int a, .int b, .int c] q (fP n a b c) := by
  intro n
  induction n with
  | zero => exact fun a b c X r X' e => absurd e (by simp [fP])
  | succ n ih => exact fun a b c => bX1_placeRoute (d + n) q hq _ ih a b c
theorem aX1_placeRoute (d : Nat) (q : m_S) (hq : isW q) (a1 : Int32) (a2 : Int32) (a3 : Int32) : AC rI yX1_placeRoute cX1_placeRoute 7 (some .int) (d + 20) [.ref 141, .ref 4, .int a1, .int a2, .int a3] q (fX1_placeRoute a1 a2 a3) := aP d q hq 14 a1 a2 a3
set_option maxRecDepth 100000 in
set_option maxHeartbeats 4000000 in
theorem aX1_countRounds (d : Nat) (q : m_S) (hq : isW q)  : AC rI yX1_countRounds cX1_countRounds 2 (some .int) (d + 21) [.ref 141, .ref 4] q (fX1_countRounds ) := by
  refine ac_of (by decide +kernel) (Nat.le_of_ble_eq_true rfl) ?_
  unfold fX1_countRounds
  show MF rI (yX1_countRounds.cls, cX1_countRounds, 2, (some .int), yX1_countRounds.name, d + 21, 0, 0) 0 [(0, .ref 141), (1, .ref 4)] [] q _
  refine mf_aload_n 0 dX1_countRounds_0 rfl ?_
  refine mf_getr 1 5 dX1_countRounds_1 fl_X1_28 (by decide) (by decide) rfl (co_o (w_co hq)) (co_r5 (w_co hq)) (by decide) ?_
  refine mf_iconst (v := 0) dX1_countRounds_4 rfl ?_
  refine mf_cSv (rest := []) [.ref 145, .int 0] (aJ7_fill_53178 (d + 19) q 145 10 (co_a5 (w_co hq)) (by decide) 0) mY_J7_fill_53178 dX1_countRounds_5 ml_X1_96 rfl rfl (Nat.le_of_ble_eq_true rfl) rfl (fun _ => ?_)
  refine mf_aload_n 0 dX1_countRounds_8 rfl ?_
  refine mf_aload_n 1 dX1_countRounds_9 rfl ?_
  refine mf_iconst (v := 0) dX1_countRounds_10 rfl ?_
  refine mf_iconst (v := 0) dX1_countRounds_11 rfl ?_
  refine mf_aload_n 1 dX1_countRounds_12 rfl ?_
  refine mf_getr 5 0 dX1_countRounds_13 fl_X1_59 (by decide) (by decide) rfl (pl_o (w_pl hq pl4)) (pl_r0 (w_pl hq pl4)) (by decide) ?_
  refine mf_iconst (v := 4) dX1_countRounds_16 rfl ?_
  refine mf_iald dX1_countRounds_17 (pl_a0 (w_pl hq pl4)) (fun v1 => ?_)
  refine mf_iconst (v := 1) dX1_countRounds_18 rfl ?_
  refine mf_iadd dX1_countRounds_19 ?_
  refine mf_cVi (rest := []) [.ref 4, .int 0, .int 0, .int (v1 + 1)] (aX1_placeRoute (d + 0) q hq 0 0 (v1 + 1)) mY_X1_placeRoute dX1_countRounds_20 ml_X1_127 (co_o (w_co hq)) rfl rfl (Nat.le_of_ble_eq_true rfl) rfl (fun v2 => ?_)
  exact mf_ireturn dX1_countRounds_23 rfl rfl ⟨rfl, rfl⟩
set_option maxRecDepth 100000 in
set_option maxHeartbeats 4000000 in
theorem aX2_isReport (d : Nat) (q : m_S) (hq : isW q)  : AC rI yX2_isReport cX2_isReport 3 (some .boolean) (d + 2) [.ref 1, .ref 4] q (fX2_isReport ) := by
  refine ac_of (by decide +kernel) (Nat.le_of_ble_eq_true rfl) ?_
  unfold fX2_isReport
  show MF rI (yX2_isReport.cls, cX2_isReport, 3, (some .boolean), yX2_isReport.name, d + 2, 0, 0) 0 [(0, .ref 1), (1, .ref 4)] [] q _
  refine mf_aload_n 0 dX2_isReport_0 rfl ?_
  refine mf_geti 10 1 dX2_isReport_1 fl_X2_43 (by decide) (by decide) rfl (tx_o (w_tx hq)) (fun v1 => ?_)
  refine mf_iconst (v := 2) dX2_isReport_4 rfl ?_
  refine mf_icmp_lt (tgt := 26) dX2_isReport_5 (by decide) ?_ ?_
  · refine mf_iconst (v := 0) dX2_isReport_26 rfl ?_
    exact mf_ireturn dX2_isReport_27 rfl rfl ⟨rfl, rfl⟩
  · refine mf_aload_n 0 dX2_isReport_8 rfl ?_
    refine mf_geti 10 1 dX2_isReport_9 fl_X2_43 (by decide) (by decide) rfl (tx_o (w_tx hq)) (fun v2 => ?_)
    refine mf_bipush (v := 12) dX2_isReport_12 (by decide) ?_
    refine mf_icmp_gt (tgt := 26) dX2_isReport_14 (by decide) ?_ ?_
    · refine mf_iconst (v := 0) dX2_isReport_26 rfl ?_
      exact mf_ireturn dX2_isReport_27 rfl rfl ⟨rfl, rfl⟩
    · refine mf_aload_n 0 dX2_isReport_17 rfl ?_
      refine mf_geti 10 1 dX2_isReport_18 fl_X2_43 (by decide) (by decide) rfl (tx_o (w_tx hq)) (fun v3 => ?_)
      refine mf_iconst (v := 2) dX2_isReport_21 rfl ?_
      refine mf_iremC dX2_isReport_22 (by decide) ?_
      refine mf_if_eq (tgt := 28) dX2_isReport_23 (by decide) ?_ ?_
      · refine mf_iconst (v := 0) dX2_isReport_28 rfl ?_
        refine mf_istore_n [(2, .int 0), (0, .ref 1), (1, .ref 4)] dX2_isReport_29 (Nat.le_of_ble_eq_true rfl) rfl ?_
        refine mf_sub [1, 2, 0] rfl ?_
        refine mf_lz1 (lv := fun x4 => [(0, .ref 1), (1, .ref 4), (2, .int x4)]) (fun L30 h30 x4 => ?_) _ _
        show MF rI (yX2_isReport.cls, cX2_isReport, 3, (some .boolean), yX2_isReport.name, d + 2, 0, 0) 30 [(0, .ref 1), (1, .ref 4), (2, .int x4)] [] q _
        refine mf_iload_n 2 dX2_isReport_30 rfl ?_
        refine mf_iconst (v := 1) dX2_isReport_31 rfl ?_
        refine mf_iadd dX2_isReport_32 ?_
        refine mf_aload_n 0 dX2_isReport_33 rfl ?_
        refine mf_geti 10 1 dX2_isReport_34 fl_X2_43 (by decide) (by decide) rfl (tx_o (w_tx hq)) (fun v5 => ?_)
        refine mf_icmp_ge (tgt := 74) dX2_isReport_37 (by decide) ?_ ?_
        · refine mf_iconst (v := 1) dX2_isReport_74 rfl ?_
          exact mf_ireturn dX2_isReport_75 rfl rfl ⟨rfl, rfl⟩
        · refine mf_aload_n 1 dX2_isReport_40 rfl ?_
          refine mf_iconst (v := 0) dX2_isReport_41 rfl ?_
          refine mf_aload_n 0 dX2_isReport_42 rfl ?_
          refine mf_getr 10 0 dX2_isReport_43 fl_X2_46 (by decide) (by decide) rfl (tx_o (w_tx hq)) (tx_r0 (w_tx hq)) (by decide) ?_
          refine mf_iload_n 2 dX2_isReport_46 rfl ?_
          refine mf_iald dX2_isReport_47 (tx_a0 (w_tx hq)) (fun v6 => ?_)
          refine mf_cVi (rest := []) [.int 0, .int v6] (aX5_has (d + 0) q hq 4 0 v6 pl4) mY_X5_has dX2_isReport_48 ml_X2_49 (pl_o (w_pl hq pl4)) rfl rfl (Nat.le_of_ble_eq_true rfl) rfl (fun v7 => ?_)
          refine mf_if_eq (tgt := 66) dX2_isReport_51 (by decide) ?_ ?_
          · refine mf_iconst (v := 0) dX2_isReport_66 rfl ?_
            exact mf_ireturn dX2_isReport_67 rfl rfl ⟨rfl, rfl⟩
          · refine mf_aload_n 0 dX2_isReport_54 rfl ?_
            refine mf_getr 10 0 dX2_isReport_55 fl_X2_46 (by decide) (by decide) rfl (tx_o (w_tx hq)) (tx_r0 (w_tx hq)) (by decide) ?_
            refine mf_iload_n 2 dX2_isReport_58 rfl ?_
            refine mf_iconst (v := 1) dX2_isReport_59 rfl ?_
            refine mf_iadd dX2_isReport_60 ?_
            refine mf_iald dX2_isReport_61 (tx_a0 (w_tx hq)) (fun v8 => ?_)
            refine mf_iconst (v := 1) dX2_isReport_62 rfl ?_
            refine mf_icmp_le (tgt := 68) dX2_isReport_63 (by decide) ?_ ?_
            · refine mf_iinc 2 (x4 + 2) [(2, .int (x4 + 2)), (0, .ref 1), (1, .ref 4)] dX2_isReport_68 rfl rfl (Nat.le_of_ble_eq_true rfl) rfl ?_
              refine mf_goto (tgt := 30) dX2_isReport_71 (by decide) ?_
              refine mf_sub [1, 2, 0] rfl ?_
              exact h30 _
            · refine mf_iconst (v := 0) dX2_isReport_66 rfl ?_
              exact mf_ireturn dX2_isReport_67 rfl rfl ⟨rfl, rfl⟩
      · refine mf_iconst (v := 0) dX2_isReport_26 rfl ?_
        exact mf_ireturn dX2_isReport_27 rfl rfl ⟨rfl, rfl⟩
set_option maxRecDepth 100000 in
set_option maxHeartbeats 4000000 in
theorem aX2_shownBy (d : Nat) (q : m_S) (hq : isW q) (a1 : Int32) (a2 : Int32) (a3 : Int32) (a4 : Int32) : AC rI yX2_shownBy cX2_shownBy 4 (some .int) (d + 1) [.int a1, .int a2, .int a3, .int a4] q (fX2_shownBy a1 a2 a3 a4) := by
  refine ac_of (by decide +kernel) (Nat.le_of_ble_eq_true rfl) ?_
  unfold fX2_shownBy
  show MF rI (yX2_shownBy.cls, cX2_shownBy, 4, (some .int), yX2_shownBy.name, d + 1, 0, 0) 0 [(0, .int a1), (1, .int a2), (2, .int a3), (3, .int a4)] [] q _
  refine mf_iload_n 0 dX2_shownBy_0 rfl ?_
  refine mf_iload_n 1 dX2_shownBy_1 rfl ?_
  refine mf_icmp_eq (tgt := 16) dX2_shownBy_2 (by decide) ?_ ?_
  · refine mf_iload_n 3 dX2_shownBy_16 rfl ?_
    refine mf_iload_n 2 dX2_shownBy_17 rfl ?_
    refine mf_ishr dX2_shownBy_18 ?_
    refine mf_iconst (v := 1) dX2_shownBy_19 rfl ?_
    refine mf_iand dX2_shownBy_20 ?_
    exact mf_ireturn dX2_shownBy_21 rfl rfl ⟨rfl, rfl⟩
  · refine mf_iload_n 0 dX2_shownBy_5 rfl ?_
    refine mf_iconst (v := 2) dX2_shownBy_6 rfl ?_
    refine mf_idivC dX2_shownBy_7 (by decide) ?_
    refine mf_iload_n 2 dX2_shownBy_8 rfl ?_
    refine mf_icmp_ne (tgt := 16) dX2_shownBy_9 (by decide) ?_ ?_
    · refine mf_iload_n 3 dX2_shownBy_16 rfl ?_
      refine mf_iload_n 2 dX2_shownBy_17 rfl ?_
      refine mf_ishr dX2_shownBy_18 ?_
      refine mf_iconst (v := 1) dX2_shownBy_19 rfl ?_
      refine mf_iand dX2_shownBy_20 ?_
      exact mf_ireturn dX2_shownBy_21 rfl rfl ⟨rfl, rfl⟩
    · refine mf_iload_n 0 dX2_shownBy_12 rfl ?_
      refine mf_iconst (v := 2) dX2_shownBy_13 rfl ?_
      refine mf_iremC dX2_shownBy_14 (by decide) ?_
      exact mf_ireturn dX2_shownBy_15 rfl rfl ⟨rfl, rfl⟩
set_option maxRecDepth 100000 in
set_option maxHeartbeats 4000000 in
theorem aX2_explains (d : Nat) (q : m_S) (hq : isW q) (a1 : Int32) (a2 : Int32) (a3 : Int32) : AC rI yX2_explains cX2_explains 5 (some .boolean) (d + 2) [.ref 1, .int a1, .int a2, .int a3] q (fX2_explains a1 a2 a3) := by
  refine ac_of (by decide +kernel) (Nat.le_of_ble_eq_true rfl) ?_
  unfold fX2_explains
  show MF rI (yX2_explains.cls, cX2_explains, 5, (some .boolean), yX2_explains.name, d + 2, 0, 0) 0 [(0, .ref 1), (1, .int a1), (2, .int a2), (3, .int a3)] [] q _
  refine mf_iconst (v := 0) dX2_explains_0 rfl ?_
  refine mf_istore [(4, .int 0), (0, .ref 1), (1, .int a1), (2, .int a2), (3, .int a3)] dX2_explains_1 (Nat.le_of_ble_eq_true rfl) rfl ?_
  refine mf_sub [1, 2, 3, 4, 0] rfl ?_
  refine mf_lz1 (lv := fun x1 => [(0, .ref 1), (1, .int a1), (2, .int a2), (3, .int a3), (4, .int x1)]) (fun L3 h3 x1 => ?_) _ _
  show MF rI (yX2_explains.cls, cX2_explains, 5, (some .boolean), yX2_explains.name, d + 2, 0, 0) 3 [(0, .ref 1), (1, .int a1), (2, .int a2), (3, .int a3), (4, .int x1)] [] q _
  refine mf_iload 4 dX2_explains_3 rfl ?_
  refine mf_iconst (v := 1) dX2_explains_5 rfl ?_
  refine mf_iadd dX2_explains_6 ?_
  refine mf_aload_n 0 dX2_explains_7 rfl ?_
  refine mf_geti 10 1 dX2_explains_8 fl_X2_43 (by decide) (by decide) rfl (tx_o (w_tx hq)) (fun v2 => ?_)
  refine mf_icmp_ge (tgt := 47) dX2_explains_11 (by decide) ?_ ?_
  · refine mf_iconst (v := 1) dX2_explains_47 rfl ?_
    exact mf_ireturn dX2_explains_48 rfl rfl ⟨rfl, rfl⟩
  · refine mf_iload_n 1 dX2_explains_14 rfl ?_
    refine mf_iload_n 2 dX2_explains_15 rfl ?_
    refine mf_aload_n 0 dX2_explains_16 rfl ?_
    refine mf_getr 10 0 dX2_explains_17 fl_X2_46 (by decide) (by decide) rfl (tx_o (w_tx hq)) (tx_r0 (w_tx hq)) (by decide) ?_
    refine mf_iload 4 dX2_explains_20 rfl ?_
    refine mf_iald dX2_explains_22 (tx_a0 (w_tx hq)) (fun v3 => ?_)
    refine mf_iload_n 3 dX2_explains_23 rfl ?_
    refine mf_cSi (rest := []) [.int a1, .int a2, .int v3, .int a3] (aX2_shownBy (d + 0) q hq a1 a2 v3 a3) mY_X2_shownBy dX2_explains_24 ml_X2_53 rfl rfl (Nat.le_of_ble_eq_true rfl) rfl (fun v4 => ?_)
    refine mf_aload_n 0 dX2_explains_27 rfl ?_
    refine mf_getr 10 0 dX2_explains_28 fl_X2_46 (by decide) (by decide) rfl (tx_o (w_tx hq)) (tx_r0 (w_tx hq)) (by decide) ?_
    refine mf_iload 4 dX2_explains_31 rfl ?_
    refine mf_iconst (v := 1) dX2_explains_33 rfl ?_
    refine mf_iadd dX2_explains_34 ?_
    refine mf_iald dX2_explains_35 (tx_a0 (w_tx hq)) (fun v5 => ?_)
    refine mf_icmp_eq (tgt := 41) dX2_explains_36 (by decide) ?_ ?_
    · refine mf_iinc 4 (x1 + 2) [(4, .int (x1 + 2)), (0, .ref 1), (1, .int a1), (2, .int a2), (3, .int a3)] dX2_explains_41 rfl rfl (Nat.le_of_ble_eq_true rfl) rfl ?_
      refine mf_goto (tgt := 3) dX2_explains_44 (by decide) ?_
      refine mf_sub [1, 2, 3, 4, 0] rfl ?_
      exact h3 _
    · refine mf_iconst (v := 0) dX2_explains_39 rfl ?_
      exact mf_ireturn dX2_explains_40 rfl rfl ⟨rfl, rfl⟩
set_option maxRecDepth 100000 in
set_option maxHeartbeats 4000000 in
theorem aX2_keepFailures (d : Nat) (q : m_S) (hq : isW q) (a1 : Int32) (a2 : Int32) : AC rU yX2_keepFailures cX2_keepFailures 5 none (d + 3) [.ref 146, .ref 1, .int a1, .int a2] q (fX2_keepFailures a1 a2) := by
  refine ac_of (by decide +kernel) (Nat.le_of_ble_eq_true rfl) ?_
  unfold fX2_keepFailures
  show MF rU (yX2_keepFailures.cls, cX2_keepFailures, 5, none, yX2_keepFailures.name, d + 3, 0, 0) 0 [(0, .ref 146), (1, .ref 1), (2, .int a1), (3, .int a2)] [] q _
  refine mf_aload_n 0 dX2_keepFailures_0 rfl ?_
  refine mf_iconst (v := 0) dX2_keepFailures_1 rfl ?_
  refine mf_puti 2 1 dX2_keepFailures_2 fl_X2_15 (by decide) (by decide) rfl rfl (di_o (w_di hq)) ?_
  refine mf_iconst (v := 0) dX2_keepFailures_5 rfl ?_
  refine mf_istore [(4, .int 0), (0, .ref 146), (1, .ref 1), (2, .int a1), (3, .int a2)] dX2_keepFailures_6 (Nat.le_of_ble_eq_true rfl) rfl ?_
  refine mf_sub [1, 2, 3, 4, 0] rfl ?_
  refine mf_lz1 (lv := fun x1 => [(0, .ref 146), (1, .ref 1), (2, .int a1), (3, .int a2), (4, .int x1)]) (fun L8 h8 x1 => ?_) _ _
  show MF rU (yX2_keepFailures.cls, cX2_keepFailures, 5, none, yX2_keepFailures.name, d + 3, 0, 0) 8 [(0, .ref 146), (1, .ref 1), (2, .int a1), (3, .int a2), (4, .int x1)] [] q _
  refine mf_iload 4 dX2_keepFailures_8 rfl ?_
  refine mf_iload_n 2 dX2_keepFailures_10 rfl ?_
  refine mf_icmp_gt (tgt := 64) dX2_keepFailures_11 (by decide) ?_ ?_
  · exact mf_return dX2_keepFailures_64 rfl ⟨rfl, rfl⟩
  · refine mf_aload_n 0 dX2_keepFailures_14 rfl ?_
    refine mf_geti 2 1 dX2_keepFailures_15 fl_X2_15 (by decide) (by decide) rfl (di_o (w_di hq)) (fun v2 => ?_)
    refine mf_aload_n 0 dX2_keepFailures_18 rfl ?_
    refine mf_getr 2 0 dX2_keepFailures_19 fl_X2_9 (by decide) (by decide) rfl (di_o (w_di hq)) (di_r0 (w_di hq)) (by decide) ?_
    refine mf_alen (t := 0) (by decide) dX2_keepFailures_22 (di_a0 (w_di hq)) ?_
    refine mf_icmp_ge (tgt := 64) dX2_keepFailures_23 (by decide) ?_ ?_
    · exact mf_return dX2_keepFailures_64 rfl ⟨rfl, rfl⟩
    · refine mf_aload_n 1 dX2_keepFailures_26 rfl ?_
      refine mf_iload 4 dX2_keepFailures_27 rfl ?_
      refine mf_iload_n 2 dX2_keepFailures_29 rfl ?_
      refine mf_iload_n 3 dX2_keepFailures_30 rfl ?_
      refine mf_cSi (rest := []) [.ref 1, .int x1, .int a1, .int a2] (aX2_explains (d + 0) q hq x1 a1 a2) mY_X2_explains dX2_keepFailures_31 ml_X2_31 rfl rfl (Nat.le_of_ble_eq_true rfl) rfl (fun v3 => ?_)
      refine mf_if_eq (tgt := 58) dX2_keepFailures_34 (by decide) ?_ ?_
      · refine mf_iinc 4 (x1 + 1) [(4, .int (x1 + 1)), (0, .ref 146), (1, .ref 1), (2, .int a1), (3, .int a2)] dX2_keepFailures_58 rfl rfl (Nat.le_of_ble_eq_true rfl) rfl ?_
        refine mf_goto (tgt := 8) dX2_keepFailures_61 (by decide) ?_
        refine mf_sub [1, 2, 3, 4, 0] rfl ?_
        exact h8 _
      · refine mf_aload_n 0 dX2_keepFailures_37 rfl ?_
        refine mf_getr 2 0 dX2_keepFailures_38 fl_X2_9 (by decide) (by decide) rfl (di_o (w_di hq)) (di_r0 (w_di hq)) (by decide) ?_
        refine mf_aload_n 0 dX2_keepFailures_41 rfl ?_
        refine mf_geti 2 1 dX2_keepFailures_42 fl_X2_15 (by decide) (by decide) rfl (di_o (w_di hq)) (fun v4 => ?_)
        refine mf_iload 4 dX2_keepFailures_45 rfl ?_
        refine mf_iast dX2_keepFailures_47 (di_a0 (w_di hq)) ?_
        refine mf_aload_n 0 dX2_keepFailures_48 rfl ?_
        refine mf_dup dX2_keepFailures_49 rfl ?_
        refine mf_geti 2 1 dX2_keepFailures_50 fl_X2_15 (by decide) (by decide) rfl (di_o (w_di hq)) (fun v5 => ?_)
        refine mf_iconst (v := 1) dX2_keepFailures_53 rfl ?_
        refine mf_iadd dX2_keepFailures_54 ?_
        refine mf_puti 2 1 dX2_keepFailures_55 fl_X2_15 (by decide) (by decide) rfl rfl (di_o (w_di hq)) ?_
        refine mf_iinc 4 (x1 + 1) [(4, .int (x1 + 1)), (0, .ref 146), (1, .ref 1), (2, .int a1), (3, .int a2)] dX2_keepFailures_58 rfl rfl (Nat.le_of_ble_eq_true rfl) rfl ?_
        refine mf_goto (tgt := 8) dX2_keepFailures_61 (by decide) ?_
        refine mf_sub [1, 2, 3, 4, 0] rfl ?_
        exact h8 _
set_option maxRecDepth 100000 in
set_option maxHeartbeats 4000000 in
theorem aX2_bestLook (d : Nat) (q : m_S) (hq : isW q) (a1 : Int32) (a2 : Int32) : AC rI yX2_bestLook cX2_bestLook 8 (some .int) (d + 2) [.ref 146, .int a1, .int a2] q (fX2_bestLook a1 a2) := by
  refine ac_of (by decide +kernel) (Nat.le_of_ble_eq_true rfl) ?_
  unfold fX2_bestLook
  show MF rI (yX2_bestLook.cls, cX2_bestLook, 8, (some .int), yX2_bestLook.name, d + 2, 0, 0) 0 [(0, .ref 146), (1, .int a1), (2, .int a2)] [] q _
  refine mf_iconst (v := -1) dX2_bestLook_0 rfl ?_
  refine mf_istore_n [(3, .int (-1)), (0, .ref 146), (1, .int a1), (2, .int a2)] dX2_bestLook_1 (Nat.le_of_ble_eq_true rfl) rfl ?_
  refine mf_aload_n 1 dX2_bestLook_2 rfl ?_
  refine mf_geti 2 1 dX2_bestLook_3 fl_X2_15 (by decide) (by decide) rfl (di_o (w_di hq)) (fun v1 => ?_)
  refine mf_iconst (v := 1) dX2_bestLook_6 rfl ?_
  refine mf_iadd dX2_bestLook_7 ?_
  refine mf_istore [(4, .int (v1 + 1)), (3, .int (-1)), (0, .ref 146), (1, .int a1), (2, .int a2)] dX2_bestLook_8 (Nat.le_of_ble_eq_true rfl) rfl ?_
  refine mf_iconst (v := 0) dX2_bestLook_10 rfl ?_
  refine mf_istore [(5, .int 0), (4, .int (v1 + 1)), (3, .int (-1)), (0, .ref 146), (1, .int a1), (2, .int a2)] dX2_bestLook_11 (Nat.le_of_ble_eq_true rfl) rfl ?_
  refine mf_sub [3, 4, 5, 2, 1, 0] rfl ?_
  refine mf_lz3 (lv := fun x2 x3 x4 => [(0, .ref 146), (1, .int a1), (2, .int a2), (3, .int x2), (4, .int x3), (5, .int x4)]) (fun L13 h13 x2 x3 x4 => ?_) _ _ _ _
  show MF rI (yX2_bestLook.cls, cX2_bestLook, 8, (some .int), yX2_bestLook.name, d + 2, 0, 0) 13 [(0, .ref 146), (1, .int a1), (2, .int a2), (3, .int x2), (4, .int x3), (5, .int x4)] [] q _
  refine mf_iload 5 dX2_bestLook_13 rfl ?_
  refine mf_iload_n 1 dX2_bestLook_15 rfl ?_
  refine mf_icmp_ge (tgt := 95) dX2_bestLook_16 (by decide) ?_ ?_
  · refine mf_iload_n 3 dX2_bestLook_95 rfl ?_
    exact mf_ireturn dX2_bestLook_96 rfl rfl ⟨rfl, rfl⟩
  · refine mf_iconst (v := 0) dX2_bestLook_19 rfl ?_
    refine mf_istore [(6, .int 0), (0, .ref 146), (1, .int a1), (2, .int a2), (3, .int x2), (4, .int x3), (5, .int x4)] dX2_bestLook_20 (Nat.le_of_ble_eq_true rfl) rfl ?_
    refine mf_iconst (v := 0) dX2_bestLook_22 rfl ?_
    refine mf_istore [(7, .int 0), (6, .int 0), (0, .ref 146), (1, .int a1), (2, .int a2), (3, .int x2), (4, .int x3), (5, .int x4)] dX2_bestLook_23 (Nat.le_of_ble_eq_true rfl) rfl ?_
    refine mf_sub [2, 3, 4, 5, 6, 7, 1, 0] rfl ?_
    refine mf_lz2 (lv := fun x5 x6 => [(0, .ref 146), (1, .int a1), (2, .int a2), (3, .int x2), (4, .int x3), (5, .int x4), (6, .int x5), (7, .int x6)]) (fun L25 h25 x5 x6 => ?_) _ _ _
    show MF rI (yX2_bestLook.cls, cX2_bestLook, 8, (some .int), yX2_bestLook.name, d + 2, 0, 0) 25 [(0, .ref 146), (1, .int a1), (2, .int a2), (3, .int x2), (4, .int x3), (5, .int x4), (6, .int x5), (7, .int x6)] [] q _
    refine mf_iload 7 dX2_bestLook_25 rfl ?_
    refine mf_aload_n 0 dX2_bestLook_27 rfl ?_
    refine mf_geti 2 1 dX2_bestLook_28 fl_X2_15 (by decide) (by decide) rfl (di_o (w_di hq)) (fun v7 => ?_)
    refine mf_icmp_ge (tgt := 61) dX2_bestLook_31 (by decide) ?_ ?_
    · refine mf_iload 6 dX2_bestLook_61 rfl ?_
      refine mf_aload_n 0 dX2_bestLook_63 rfl ?_
      refine mf_geti 2 1 dX2_bestLook_64 fl_X2_15 (by decide) (by decide) rfl (di_o (w_di hq)) (fun v8 => ?_)
      refine mf_iload 6 dX2_bestLook_67 rfl ?_
      refine mf_isub dX2_bestLook_69 ?_
      refine mf_mmax dX2_bestLook_70 ml_X2_57 (by show 1 ≤ d + _; omega) (Nat.le_of_ble_eq_true rfl) ?_
      refine mf_istore [(7, .int (if x5 < (v8 - x5) then (v8 - x5) else x5)), (0, .ref 146), (1, .int a1), (2, .int a2), (3, .int x2), (4, .int x3), (5, .int x4), (6, .int x5)] dX2_bestLook_73 (Nat.le_of_ble_eq_true rfl) rfl ?_
      refine mf_iload 0 dX2_bestLook_75 rfl ?_
      refine mf_iload 5 dX2_bestLook_77 rfl ?_
      refine mf_icmp_ge (tgt := 89) dX2_bestLook_79 (by decide) ?_ ?_
      · refine mf_iinc 6 (x4 + 1) [(5, .int (x4 + 1)), (7, .int (if x5 < (v8 - x5) then (v8 - x5) else x5)), (0, .ref 146), (1, .int a1), (2, .int a2), (3, .int x2), (4, .int x3), (6, .int x5)] dX2_bestLook_89 rfl rfl (Nat.le_of_ble_eq_true rfl) rfl ?_
        refine mf_goto (tgt := 13) dX2_bestLook_92 (by decide) ?_
        refine mf_sub [2, 3, 4, 5, 6, 0] rfl ?_
        exact h13 _ _ _
      · refine mf_iload 0 dX2_bestLook_82 rfl ?_
        refine mf_istore [(4, .int (if x5 < (v8 - x5) then (v8 - x5) else x5)), (7, .int (if x5 < (v8 - x5) then (v8 - x5) else x5)), (0, .ref 146), (1, .int a1), (2, .int a2), (3, .int x2), (5, .int x4), (6, .int x5)] dX2_bestLook_84 (Nat.le_of_ble_eq_true rfl) rfl ?_
        refine mf_iload 6 dX2_bestLook_86 rfl ?_
        refine mf_istore_n [(3, .int x4), (4, .int (if x5 < (v8 - x5) then (v8 - x5) else x5)), (7, .int (if x5 < (v8 - x5) then (v8 - x5) else x5)), (0, .ref 146), (1, .int a1), (2, .int a2), (5, .int x4), (6, .int x5)] dX2_bestLook_88 (Nat.le_of_ble_eq_true rfl) rfl ?_
        refine mf_iinc 6 (x4 + 1) [(5, .int (x4 + 1)), (3, .int x4), (4, .int (if x5 < (v8 - x5) then (v8 - x5) else x5)), (7, .int (if x5 < (v8 - x5) then (v8 - x5) else x5)), (0, .ref 146), (1, .int a1), (2, .int a2), (6, .int x5)] dX2_bestLook_89 rfl rfl (Nat.le_of_ble_eq_true rfl) rfl ?_
        refine mf_goto (tgt := 13) dX2_bestLook_92 (by decide) ?_
        refine mf_sub [4, 5, 6, 1, 2, 0] rfl ?_
        exact h13 _ _ _
    · refine mf_iload 6 dX2_bestLook_34 rfl ?_
      refine mf_aload_n 0 dX2_bestLook_36 rfl ?_
      refine mf_getr 2 0 dX2_bestLook_37 fl_X2_9 (by decide) (by decide) rfl (di_o (w_di hq)) (di_r0 (w_di hq)) (by decide) ?_
      refine mf_iload 7 dX2_bestLook_40 rfl ?_
      refine mf_iald dX2_bestLook_42 (di_a0 (w_di hq)) (fun v9 => ?_)
      refine mf_iconst (v := 2) dX2_bestLook_43 rfl ?_
      refine mf_iload_n 1 dX2_bestLook_44 rfl ?_
      refine mf_imul dX2_bestLook_45 ?_
      refine mf_iload 5 dX2_bestLook_46 rfl ?_
      refine mf_iload_n 2 dX2_bestLook_48 rfl ?_
      refine mf_cSi (rest := [.int x5]) [.int v9, .int (2 * a1), .int x4, .int a2] (aX2_shownBy (d + 0) q hq v9 (2 * a1) x4 a2) mY_X2_shownBy dX2_bestLook_49 ml_X2_53 rfl rfl (Nat.le_of_ble_eq_true rfl) rfl (fun v10 => ?_)
      refine mf_iadd dX2_bestLook_52 ?_
      refine mf_istore [(6, .int (x5 + v10)), (0, .ref 146), (1, .int a1), (2, .int a2), (3, .int x2), (4, .int x3), (5, .int x4), (7, .int x6)] dX2_bestLook_53 (Nat.le_of_ble_eq_true rfl) rfl ?_
      refine mf_iinc 7 (x6 + 1) [(7, .int (x6 + 1)), (6, .int (x5 + v10)), (0, .ref 146), (1, .int a1), (2, .int a2), (3, .int x2), (4, .int x3), (5, .int x4)] dX2_bestLook_55 rfl rfl (Nat.le_of_ble_eq_true rfl) rfl ?_
      refine mf_goto (tgt := 25) dX2_bestLook_58 (by decide) ?_
      refine mf_sub [2, 3, 4, 5, 6, 7, 1, 0] rfl ?_
      exact h25 _ _
set_option maxRecDepth 100000 in
set_option maxHeartbeats 4000000 in
theorem aX2_workOut (d : Nat) (q : m_S) (hq : isW q) (a1 : Int32) : AC rI yX2_workOut cX2_workOut 7 (some .int) (d + 4) [.ref 146, .ref 1, .ref 4, .int a1] q (fX2_workOut a1) := by
  refine ac_of (by decide +kernel) (Nat.le_of_ble_eq_true rfl) ?_
  unfold fX2_workOut
  show MF rI (yX2_workOut.cls, cX2_workOut, 7, (some .int), yX2_workOut.name, d + 4, 0, 0) 0 [(0, .ref 146), (1, .ref 1), (2, .ref 4), (3, .int a1)] [] q _
  refine mf_aload_n 1 dX2_workOut_0 rfl ?_
  refine mf_aload_n 2 dX2_workOut_1 rfl ?_
  refine mf_cSi (rest := []) [.ref 1, .ref 4] (aX2_isReport (d + 1) q hq) mY_X2_isReport dX2_workOut_2 ml_X2_22 rfl rfl (Nat.le_of_ble_eq_true rfl) rfl (fun v1 => ?_)
  refine mf_if_ne (tgt := 10) dX2_workOut_5 (by decide) ?_ ?_
  · refine mf_iconst (v := 0) dX2_workOut_10 rfl ?_
    refine mf_istore [(4, .int 0), (0, .ref 146), (1, .ref 1), (2, .ref 4), (3, .int a1)] dX2_workOut_11 (Nat.le_of_ble_eq_true rfl) rfl ?_
    refine mf_iconst (v := 2) dX2_workOut_13 rfl ?_
    refine mf_aload_n 3 dX2_workOut_14 rfl ?_
    refine mf_getr 5 0 dX2_workOut_15 fl_X2_26 (by decide) (by decide) rfl (pl_o (w_pl hq pl4)) (pl_r0 (w_pl hq pl4)) (by decide) ?_
    refine mf_iconst (v := 0) dX2_workOut_18 rfl ?_
    refine mf_iald dX2_workOut_19 (pl_a0 (w_pl hq pl4)) (fun v2 => ?_)
    refine mf_imul dX2_workOut_20 ?_
    refine mf_istore [(5, .int (2 * v2)), (4, .int 0), (0, .ref 146), (1, .ref 1), (2, .ref 4), (3, .int a1)] dX2_workOut_21 (Nat.le_of_ble_eq_true rfl) rfl ?_
    refine mf_iconst (v := 0) dX2_workOut_23 rfl ?_
    refine mf_istore [(6, .int 0), (5, .int (2 * v2)), (4, .int 0), (0, .ref 146), (1, .ref 1), (2, .ref 4), (3, .int a1)] dX2_workOut_24 (Nat.le_of_ble_eq_true rfl) rfl ?_
    refine mf_sub [3, 4, 5, 6, 2, 1, 0] rfl ?_
    refine mf_lz2 (lv := fun x3 x4 => [(0, .ref 146), (1, .ref 1), (2, .ref 4), (3, .int a1), (4, .int x3), (5, .int (2 * v2)), (6, .int x4)]) (fun L26 h26 x3 x4 => ?_) _ _ _
    show MF rI (yX2_workOut.cls, cX2_workOut, 7, (some .int), yX2_workOut.name, d + 4, 0, 0) 26 [(0, .ref 146), (1, .ref 1), (2, .ref 4), (3, .int a1), (4, .int x3), (5, .int (2 * v2)), (6, .int x4)] [] q _
    refine mf_iload 6 dX2_workOut_26 rfl ?_
    refine mf_iload 5 dX2_workOut_28 rfl ?_
    refine mf_icmp_gt (tgt := 54) dX2_workOut_30 (by decide) ?_ ?_
    · refine mf_iload 4 dX2_workOut_54 rfl ?_
      refine mf_if_le (tgt := 82) dX2_workOut_56 (by decide) ?_ ?_
      · refine mf_iload 4 dX2_workOut_82 rfl ?_
        exact mf_ireturn dX2_workOut_84 rfl rfl ⟨rfl, rfl⟩
      · refine mf_aload_n 0 dX2_workOut_59 rfl ?_
        refine mf_aload_n 1 dX2_workOut_60 rfl ?_
        refine mf_iload 5 dX2_workOut_61 rfl ?_
        refine mf_iload_n 3 dX2_workOut_63 rfl ?_
        refine mf_cVv (rest := []) [.ref 1, .int (2 * v2), .int a1] (aX2_keepFailures (d + 0) q hq (2 * v2) a1) mY_X2_keepFailures dX2_workOut_64 ml_X2_35 (di_o (w_di hq)) rfl rfl (Nat.le_of_ble_eq_true rfl) rfl (fun _ => ?_)
        refine mf_aload_n 0 dX2_workOut_67 rfl ?_
        refine mf_aload_n 0 dX2_workOut_68 rfl ?_
        refine mf_aload_n 2 dX2_workOut_69 rfl ?_
        refine mf_getr 5 0 dX2_workOut_70 fl_X2_26 (by decide) (by decide) rfl (pl_o (w_pl hq pl4)) (pl_r0 (w_pl hq pl4)) (by decide) ?_
        refine mf_iconst (v := 0) dX2_workOut_73 rfl ?_
        refine mf_iald dX2_workOut_74 (pl_a0 (w_pl hq pl4)) (fun v5 => ?_)
        refine mf_iload_n 3 dX2_workOut_75 rfl ?_
        refine mf_cVi (rest := [.ref 146]) [.int v5, .int a1] (aX2_bestLook (d + 1) q hq v5 a1) mY_X2_bestLook dX2_workOut_76 ml_X2_39 (di_o (w_di hq)) rfl rfl (Nat.le_of_ble_eq_true rfl) rfl (fun v6 => ?_)
        refine mf_puti 2 2 dX2_workOut_79 fl_X2_19 (by decide) (by decide) rfl rfl (di_o (w_di hq)) ?_
        refine mf_iload 4 dX2_workOut_82 rfl ?_
        exact mf_ireturn dX2_workOut_84 rfl rfl ⟨rfl, rfl⟩
    · refine mf_aload_n 1 dX2_workOut_33 rfl ?_
      refine mf_iload 6 dX2_workOut_34 rfl ?_
      refine mf_iload 5 dX2_workOut_36 rfl ?_
      refine mf_iload_n 3 dX2_workOut_38 rfl ?_
      refine mf_cSi (rest := []) [.ref 1, .int x4, .int (2 * v2), .int a1] (aX2_explains (d + 1) q hq x4 (2 * v2) a1) mY_X2_explains dX2_workOut_39 ml_X2_31 rfl rfl (Nat.le_of_ble_eq_true rfl) rfl (fun v7 => ?_)
      refine mf_if_eq (tgt := 48) dX2_workOut_42 (by decide) ?_ ?_
      · refine mf_iinc 6 (x4 + 1) [(6, .int (x4 + 1)), (0, .ref 146), (1, .ref 1), (2, .ref 4), (3, .int a1), (4, .int x3), (5, .int (2 * v2))] dX2_workOut_48 rfl rfl (Nat.le_of_ble_eq_true rfl) rfl ?_
        refine mf_goto (tgt := 26) dX2_workOut_51 (by decide) ?_
        refine mf_sub [1, 2, 3, 4, 5, 6, 0] rfl ?_
        exact h26 _ _
      · refine mf_iinc 4 (x3 + 1) [(4, .int (x3 + 1)), (0, .ref 146), (1, .ref 1), (2, .ref 4), (3, .int a1), (5, .int (2 * v2)), (6, .int x4)] dX2_workOut_45 rfl rfl (Nat.le_of_ble_eq_true rfl) rfl ?_
        refine mf_iinc 6 (x4 + 1) [(6, .int (x4 + 1)), (4, .int (x3 + 1)), (0, .ref 146), (1, .ref 1), (2, .ref 4), (3, .int a1), (5, .int (2 * v2))] dX2_workOut_48 rfl rfl (Nat.le_of_ble_eq_true rfl) rfl ?_
        refine mf_goto (tgt := 26) dX2_workOut_51 (by decide) ?_
        refine mf_sub [2, 3, 4, 5, 1, 6, 0] rfl ?_
        exact h26 _ _
  · refine mf_iconst (v := -1) dX2_workOut_8 rfl ?_
    exact mf_ireturn dX2_workOut_9 rfl rfl ⟨rfl, rfl⟩
set_option maxRecDepth 100000 in
set_option maxHeartbeats 4000000 in
theorem aX2_failureAt (d : Nat) (q : m_S) (hq : isW q) (a1 : Int32) : AC rI yX2_failureAt cX2_failureAt 2 (some .int) (d + 1) [.ref 146, .int a1] q (fX2_failureAt a1) := by
  refine ac_of (by decide +kernel) (Nat.le_of_ble_eq_true rfl) ?_
  unfold fX2_failureAt
  show MF rI (yX2_failureAt.cls, cX2_failureAt, 2, (some .int), yX2_failureAt.name, d + 1, 0, 0) 0 [(0, .ref 146), (1, .int a1)] [] q _
  refine mf_iload_n 1 dX2_failureAt_0 rfl ?_
  refine mf_if_lt (tgt := 21) dX2_failureAt_1 (by decide) ?_ ?_
  · refine mf_iconst (v := -1) dX2_failureAt_21 rfl ?_
    exact mf_ireturn dX2_failureAt_22 rfl rfl ⟨rfl, rfl⟩
  · refine mf_iload_n 1 dX2_failureAt_4 rfl ?_
    refine mf_aload_n 0 dX2_failureAt_5 rfl ?_
    refine mf_geti 2 1 dX2_failureAt_6 fl_X2_15 (by decide) (by decide) rfl (di_o (w_di hq)) (fun v1 => ?_)
    refine mf_icmp_ge (tgt := 21) dX2_failureAt_9 (by decide) ?_ ?_
    · refine mf_iconst (v := -1) dX2_failureAt_21 rfl ?_
      exact mf_ireturn dX2_failureAt_22 rfl rfl ⟨rfl, rfl⟩
    · refine mf_aload_n 0 dX2_failureAt_12 rfl ?_
      refine mf_getr 2 0 dX2_failureAt_13 fl_X2_9 (by decide) (by decide) rfl (di_o (w_di hq)) (di_r0 (w_di hq)) (by decide) ?_
      refine mf_iload_n 1 dX2_failureAt_16 rfl ?_
      refine mf_iald dX2_failureAt_17 (di_a0 (w_di hq)) (fun v2 => ?_)
      refine mf_goto (tgt := 22) dX2_failureAt_18 (by decide) ?_
      exact mf_ireturn dX2_failureAt_22 rfl rfl ⟨rfl, rfl⟩
set_option maxRecDepth 100000 in
set_option maxHeartbeats 4000000 in
theorem aX3_note (d : Nat) (q : m_S) (hq : isW q)  : AC rU yX3_note cX3_note 2 none (d + 3) [.ref 61, .ref 47] q (fX3_note ) := by
  refine ac_of (by decide +kernel) (Nat.le_of_ble_eq_true rfl) ?_
  unfold fX3_note
  show MF rU (yX3_note.cls, cX3_note, 2, none, yX3_note.name, d + 3, 0, 0) 0 [(0, .ref 61), (1, .ref 47)] [] q _
  refine mf_aload_n 0 dX3_note_0 rfl ?_
  refine mf_getr 3 0 dX3_note_1 fl_X3_11 (by decide) (by decide) rfl (hi_o (w_hi hq)) (hi_r0 (w_hi hq)) (by decide) ?_
  refine mf_aload_n 0 dX3_note_4 rfl ?_
  refine mf_geti 3 1 dX3_note_5 fl_X3_17 (by decide) (by decide) rfl (hi_o (w_hi hq)) (fun v1 => ?_)
  refine mf_rH dX3_note_8 (hi_a0 (w_hi hq)) (fun g8 hg8 => ?_)
  refine mf_aload_n 1 dX3_note_9 rfl ?_
  refine mf_cVv (rest := []) [.ref 47] (aX8_copyFrom (d + 0) q hq (63 + 7 * g8) 47 (stH hg8) st47) mY_X8_copyFrom dX3_note_10 ml_X3_24 (sa_o (w_st hq (stH hg8))) rfl rfl (Nat.le_of_ble_eq_true rfl) rfl (fun _ => ?_)
  exact mf_return dX3_note_13 rfl ⟨rfl, rfl⟩
set_option maxRecDepth 100000 in
set_option maxHeartbeats 4000000 in
theorem aX3_keepNoted (d : Nat) (q : m_S) (hq : isW q)  : AC rU yX3_keepNoted cX3_keepNoted 3 none (d + 1) [.ref 61] q (fX3_keepNoted ) := by
  refine ac_of (by decide +kernel) (Nat.le_of_ble_eq_true rfl) ?_
  unfold fX3_keepNoted
  show MF rU (yX3_keepNoted.cls, cX3_keepNoted, 3, none, yX3_keepNoted.name, d + 1, 0, 0) 0 [(0, .ref 61)] [] q _
  refine mf_aload_n 0 dX3_keepNoted_0 rfl ?_
  refine mf_geti 3 1 dX3_keepNoted_1 fl_X3_17 (by decide) (by decide) rfl (hi_o (w_hi hq)) (fun v1 => ?_)
  refine mf_bipush (v := 8) dX3_keepNoted_4 (by decide) ?_
  refine mf_icmp_ge (tgt := 20) dX3_keepNoted_6 (by decide) ?_ ?_
  · refine mf_aload_n 0 dX3_keepNoted_20 rfl ?_
    refine mf_getr 3 0 dX3_keepNoted_21 fl_X3_11 (by decide) (by decide) rfl (hi_o (w_hi hq)) (hi_r0 (w_hi hq)) (by decide) ?_
    refine mf_iconst (v := 0) dX3_keepNoted_24 rfl ?_
    refine mf_rH dX3_keepNoted_25 (hi_a0 (w_hi hq)) (fun g25 hg25 => ?_)
    refine mf_astore_n [(1, .ref (63 + 7 * g25)), (0, .ref 61)] dX3_keepNoted_26 (Nat.le_of_ble_eq_true rfl) rfl ?_
    refine mf_iconst (v := 0) dX3_keepNoted_27 rfl ?_
    refine mf_istore_n [(2, .int 0), (1, .ref (63 + 7 * g25)), (0, .ref 61)] dX3_keepNoted_28 (Nat.le_of_ble_eq_true rfl) rfl ?_
    refine mf_sub [2, 1, 0] rfl ?_
    refine mf_lz1 (lv := fun x2 => [(0, .ref 61), (1, .ref (63 + 7 * g25)), (2, .int x2)]) (fun L29 h29 x2 => ?_) _ _
    show MF rU (yX3_keepNoted.cls, cX3_keepNoted, 3, none, yX3_keepNoted.name, d + 1, 0, 0) 29 [(0, .ref 61), (1, .ref (63 + 7 * g25)), (2, .int x2)] [] q _
    refine mf_iload_n 2 dX3_keepNoted_29 rfl ?_
    refine mf_bipush (v := 8) dX3_keepNoted_30 (by decide) ?_
    refine mf_icmp_ge (tgt := 55) dX3_keepNoted_32 (by decide) ?_ ?_
    · refine mf_aload_n 0 dX3_keepNoted_55 rfl ?_
      refine mf_getr 3 0 dX3_keepNoted_56 fl_X3_11 (by decide) (by decide) rfl (hi_o (w_hi hq)) (hi_r0 (w_hi hq)) (by decide) ?_
      refine mf_bipush (v := 8) dX3_keepNoted_59 (by decide) ?_
      refine mf_aload_n 1 dX3_keepNoted_61 rfl ?_
      refine mf_wH dX3_keepNoted_62 (hi_a0 (w_hi hq)) (sa_o (w_st hq (stH hg25))) ?_
      exact mf_return dX3_keepNoted_63 rfl ⟨rfl, rfl⟩
    · refine mf_aload_n 0 dX3_keepNoted_35 rfl ?_
      refine mf_getr 3 0 dX3_keepNoted_36 fl_X3_11 (by decide) (by decide) rfl (hi_o (w_hi hq)) (hi_r0 (w_hi hq)) (by decide) ?_
      refine mf_iload_n 2 dX3_keepNoted_39 rfl ?_
      refine mf_aload_n 0 dX3_keepNoted_40 rfl ?_
      refine mf_getr 3 0 dX3_keepNoted_41 fl_X3_11 (by decide) (by decide) rfl (hi_o (w_hi hq)) (hi_r0 (w_hi hq)) (by decide) ?_
      refine mf_iload_n 2 dX3_keepNoted_44 rfl ?_
      refine mf_iconst (v := 1) dX3_keepNoted_45 rfl ?_
      refine mf_iadd dX3_keepNoted_46 ?_
      refine mf_rH dX3_keepNoted_47 (hi_a0 (w_hi hq)) (fun g47 hg47 => ?_)
      refine mf_wH dX3_keepNoted_48 (hi_a0 (w_hi hq)) (sa_o (w_st hq (stH hg47))) ?_
      refine mf_iinc 2 (x2 + 1) [(2, .int (x2 + 1)), (0, .ref 61), (1, .ref (63 + 7 * g25))] dX3_keepNoted_49 rfl rfl (Nat.le_of_ble_eq_true rfl) rfl ?_
      refine mf_goto (tgt := 29) dX3_keepNoted_52 (by decide) ?_
      refine mf_sub [1, 2, 0] rfl ?_
      exact h29 _
  · refine mf_aload_n 0 dX3_keepNoted_9 rfl ?_
    refine mf_dup dX3_keepNoted_10 rfl ?_
    refine mf_geti 3 1 dX3_keepNoted_11 fl_X3_17 (by decide) (by decide) rfl (hi_o (w_hi hq)) (fun v3 => ?_)
    refine mf_iconst (v := 1) dX3_keepNoted_14 rfl ?_
    refine mf_iadd dX3_keepNoted_15 ?_
    refine mf_puti 3 1 dX3_keepNoted_16 fl_X3_17 (by decide) (by decide) rfl rfl (hi_o (w_hi hq)) ?_
    exact mf_return dX3_keepNoted_19 rfl ⟨rfl, rfl⟩
set_option maxRecDepth 100000 in
set_option maxHeartbeats 4000000 in
theorem aX3_takeBack (d : Nat) (q : m_S) (hq : isW q)  : AC rI yX3_takeBack cX3_takeBack 2 (some .int) (d + 3) [.ref 61, .ref 47] q (fX3_takeBack ) := by
  refine ac_of (by decide +kernel) (Nat.le_of_ble_eq_true rfl) ?_
  unfold fX3_takeBack
  show MF rI (yX3_takeBack.cls, cX3_takeBack, 2, (some .int), yX3_takeBack.name, d + 3, 0, 0) 0 [(0, .ref 61), (1, .ref 47)] [] q _
  refine mf_aload_n 0 dX3_takeBack_0 rfl ?_
  refine mf_geti 3 1 dX3_takeBack_1 fl_X3_17 (by decide) (by decide) rfl (hi_o (w_hi hq)) (fun v1 => ?_)
  refine mf_if_ne (tgt := 9) dX3_takeBack_4 (by decide) ?_ ?_
  · refine mf_aload_n 0 dX3_takeBack_9 rfl ?_
    refine mf_dup dX3_takeBack_10 rfl ?_
    refine mf_geti 3 1 dX3_takeBack_11 fl_X3_17 (by decide) (by decide) rfl (hi_o (w_hi hq)) (fun v2 => ?_)
    refine mf_iconst (v := 1) dX3_takeBack_14 rfl ?_
    refine mf_isub dX3_takeBack_15 ?_
    refine mf_puti 3 1 dX3_takeBack_16 fl_X3_17 (by decide) (by decide) rfl rfl (hi_o (w_hi hq)) ?_
    refine mf_aload_n 1 dX3_takeBack_19 rfl ?_
    refine mf_aload_n 0 dX3_takeBack_20 rfl ?_
    refine mf_getr 3 0 dX3_takeBack_21 fl_X3_11 (by decide) (by decide) rfl (hi_o (w_hi hq)) (hi_r0 (w_hi hq)) (by decide) ?_
    refine mf_aload_n 0 dX3_takeBack_24 rfl ?_
    refine mf_geti 3 1 dX3_takeBack_25 fl_X3_17 (by decide) (by decide) rfl (hi_o (w_hi hq)) (fun v3 => ?_)
    refine mf_rH dX3_takeBack_28 (hi_a0 (w_hi hq)) (fun g28 hg28 => ?_)
    refine mf_cVv (rest := []) [.ref (63 + 7 * g28)] (aX8_copyFrom (d + 0) q hq 47 (63 + 7 * g28) st47 (stH hg28)) mY_X8_copyFrom dX3_takeBack_29 ml_X3_24 (sa_o (w_st hq st47)) rfl rfl (Nat.le_of_ble_eq_true rfl) rfl (fun _ => ?_)
    refine mf_aload_n 0 dX3_takeBack_32 rfl ?_
    refine mf_geti 3 1 dX3_takeBack_33 fl_X3_17 (by decide) (by decide) rfl (hi_o (w_hi hq)) (fun v4 => ?_)
    exact mf_ireturn dX3_takeBack_36 rfl rfl ⟨rfl, rfl⟩
  · refine mf_iconst (v := -1) dX3_takeBack_7 rfl ?_
    exact mf_ireturn dX3_takeBack_8 rfl rfl ⟨rfl, rfl⟩
set_option maxRecDepth 100000 in
set_option maxHeartbeats 4000000 in
theorem aX7_copyFrom (d : Nat) (q : m_S) (hq : isW q) (p : Nat) (p2 : Nat) (hp : isSe p) (hp2 : isSe p2) : AC rU yX7_copyFrom cX7_copyFrom 2 none (d + 2) [.ref p, .ref p2] q (fX7_copyFrom p p2) := by
  refine ac_of (by decide +kernel) (Nat.le_of_ble_eq_true rfl) ?_
  unfold fX7_copyFrom
  show MF rU (yX7_copyFrom.cls, cX7_copyFrom, 2, none, yX7_copyFrom.name, d + 2, 0, 0) 0 [(0, .ref p), (1, .ref p2)] [] q _
  refine mf_aload_n 0 dX7_copyFrom_0 rfl ?_
  refine mf_aload_n 1 dX7_copyFrom_1 rfl ?_
  refine mf_geti 7 0 dX7_copyFrom_2 fl_X7_9 (by decide) (by decide) rfl (se_o (w_se hq hp2)) (fun v1 => ?_)
  refine mf_putz 7 0 dX7_copyFrom_5 fl_X7_9 (by decide) (by decide) rfl rfl (se_o (w_se hq hp)) ?_
  refine mf_aload_n 0 dX7_copyFrom_8 rfl ?_
  refine mf_aload_n 1 dX7_copyFrom_9 rfl ?_
  refine mf_geti 7 1 dX7_copyFrom_10 fl_X7_15 (by decide) (by decide) rfl (se_o (w_se hq hp2)) (fun v2 => ?_)
  refine mf_puti 7 1 dX7_copyFrom_13 fl_X7_15 (by decide) (by decide) rfl rfl (se_o (w_se hq hp)) ?_
  refine mf_aload_n 0 dX7_copyFrom_16 rfl ?_
  refine mf_aload_n 1 dX7_copyFrom_17 rfl ?_
  refine mf_geti 7 2 dX7_copyFrom_18 fl_X7_19 (by decide) (by decide) rfl (se_o (w_se hq hp2)) (fun v3 => ?_)
  refine mf_puti 7 2 dX7_copyFrom_21 fl_X7_19 (by decide) (by decide) rfl rfl (se_o (w_se hq hp)) ?_
  refine mf_aload_n 1 dX7_copyFrom_24 rfl ?_
  refine mf_getr 7 3 dX7_copyFrom_25 fl_X7_22 (by decide) (by decide) rfl (se_o (w_se hq hp2)) (se_r3 (w_se hq hp2)) hp2.ne.1 ?_
  refine mf_aload_n 0 dX7_copyFrom_28 rfl ?_
  refine mf_getr 7 3 dX7_copyFrom_29 fl_X7_22 (by decide) (by decide) rfl (se_o (w_se hq hp)) (se_r3 (w_se hq hp)) hp.ne.1 ?_
  refine mf_cSNv (rest := []) [.ref (p2 + 1), .ref (p + 1)] (aX11_copyRow (d + 0) q (p2 + 1) (p + 1) 40 (se_a3 (w_se hq hp2)) (se_a3 (w_se hq hp)) (by decide)) mY_X11_copyRow dX7_copyFrom_32 nl_X7_35 rfl rfl (Nat.le_of_ble_eq_true rfl) rfl (fun _ => ?_)
  refine mf_aload_n 1 dX7_copyFrom_35 rfl ?_
  refine mf_getr 7 4 dX7_copyFrom_36 fl_X7_26 (by decide) (by decide) rfl (se_o (w_se hq hp2)) (se_r4 (w_se hq hp2)) hp2.ne.1 ?_
  refine mf_aload_n 0 dX7_copyFrom_39 rfl ?_
  refine mf_getr 7 4 dX7_copyFrom_40 fl_X7_26 (by decide) (by decide) rfl (se_o (w_se hq hp)) (se_r4 (w_se hq hp)) hp.ne.1 ?_
  refine mf_cSNv (rest := []) [.ref (p2 + 2), .ref (p + 2)] (aX11_copyRow (d + 0) q (p2 + 2) (p + 2) 40 (se_a4 (w_se hq hp2)) (se_a4 (w_se hq hp)) (by decide)) mY_X11_copyRow dX7_copyFrom_43 nl_X7_35 rfl rfl (Nat.le_of_ble_eq_true rfl) rfl (fun _ => ?_)
  refine mf_aload_n 1 dX7_copyFrom_46 rfl ?_
  refine mf_getr 7 5 dX7_copyFrom_47 fl_X7_29 (by decide) (by decide) rfl (se_o (w_se hq hp2)) (se_r5 (w_se hq hp2)) hp2.ne.1 ?_
  refine mf_aload_n 0 dX7_copyFrom_50 rfl ?_
  refine mf_getr 7 5 dX7_copyFrom_51 fl_X7_29 (by decide) (by decide) rfl (se_o (w_se hq hp)) (se_r5 (w_se hq hp)) hp.ne.1 ?_
  refine mf_cSNv (rest := []) [.ref (p2 + 3), .ref (p + 3)] (aX11_copyRow (d + 0) q (p2 + 3) (p + 3) 40 (se_a5 (w_se hq hp2)) (se_a5 (w_se hq hp)) (by decide)) mY_X11_copyRow dX7_copyFrom_54 nl_X7_35 rfl rfl (Nat.le_of_ble_eq_true rfl) rfl (fun _ => ?_)
  exact mf_return dX7_copyFrom_57 rfl ⟨rfl, rfl⟩
set_option maxRecDepth 100000 in
set_option maxHeartbeats 4000000 in
theorem aX4_keep (d : Nat) (q : m_S) (hq : isW q) (b : Nat) (hb : isIb b) : AC rU yX4_keep cX4_keep 4 none (d + 3) [.ref b, .ref 4, .ref 47, .ref 130] q (fX4_keep b) := by
  refine ac_of (by decide +kernel) (Nat.le_of_ble_eq_true rfl) ?_
  unfold fX4_keep
  show MF rU (yX4_keep.cls, cX4_keep, 4, none, yX4_keep.name, d + 3, 0, 0) 0 [(0, .ref b), (1, .ref 4), (2, .ref 47), (3, .ref 130)] [] q _
  refine mf_aload_n 0 dX4_keep_0 rfl ?_
  refine mf_getr 4 0 dX4_keep_1 fl_X4_10 (by decide) (by decide) rfl (im_o (w_im hq hb)) (im_r0 (w_im hq hb)) hb.ne.1 ?_
  refine mf_aload_n 1 dX4_keep_4 rfl ?_
  refine mf_cVv (rest := []) [.ref 4] (aX5_copyFrom (d + 0) q hq (b + 1) 4 (plI hb) pl4) mY_X5_copyFrom dX4_keep_5 ml_X4_36 (pl_o (w_pl hq (plI hb))) rfl rfl (Nat.le_of_ble_eq_true rfl) rfl (fun _ => ?_)
  refine mf_aload_n 0 dX4_keep_8 rfl ?_
  refine mf_getr 4 1 dX4_keep_9 fl_X4_32 (by decide) (by decide) rfl (im_o (w_im hq hb)) (im_r1 (w_im hq hb)) hb.ne.1 ?_
  refine mf_aload_n 2 dX4_keep_12 rfl ?_
  refine mf_cVv (rest := []) [.ref 47] (aX8_copyFrom (d + 0) q hq (b + 27) 47 (stI hb) st47) mY_X8_copyFrom dX4_keep_13 ml_X4_39 (sa_o (w_st hq (stI hb))) rfl rfl (Nat.le_of_ble_eq_true rfl) rfl (fun _ => ?_)
  refine mf_aload_n 0 dX4_keep_16 rfl ?_
  refine mf_getr 4 2 dX4_keep_17 fl_X4_19 (by decide) (by decide) rfl (im_o (w_im hq hb)) (im_r2 (w_im hq hb)) hb.ne.1 ?_
  refine mf_aload_n 3 dX4_keep_20 rfl ?_
  refine mf_cVv (rest := []) [.ref 130] (aX7_copyFrom (d + 0) q hq (b + 22) 130 (seI hb) se130) mY_X7_copyFrom dX4_keep_21 ml_X4_42 (se_o (w_se hq (seI hb))) rfl rfl (Nat.le_of_ble_eq_true rfl) rfl (fun _ => ?_)
  refine mf_aload_n 0 dX4_keep_24 rfl ?_
  refine mf_iconst (v := 1) dX4_keep_25 rfl ?_
  refine mf_putzc 4 3 dX4_keep_26 fl_X4_23 (by decide) (by decide) rfl rfl (im_o (w_im hq hb)) (by decide) ?_
  exact mf_return dX4_keep_29 rfl ⟨rfl, rfl⟩
set_option maxRecDepth 100000 in
set_option maxHeartbeats 4000000 in
theorem aX4_giveBack (d : Nat) (q : m_S) (hq : isW q) (b : Nat) (hb : isIb b) : AC rU yX4_giveBack cX4_giveBack 4 none (d + 3) [.ref b, .ref 4, .ref 47, .ref 130] q (fX4_giveBack b) := by
  refine ac_of (by decide +kernel) (Nat.le_of_ble_eq_true rfl) ?_
  unfold fX4_giveBack
  show MF rU (yX4_giveBack.cls, cX4_giveBack, 4, none, yX4_giveBack.name, d + 3, 0, 0) 0 [(0, .ref b), (1, .ref 4), (2, .ref 47), (3, .ref 130)] [] q _
  refine mf_aload_n 1 dX4_giveBack_0 rfl ?_
  refine mf_aload_n 0 dX4_giveBack_1 rfl ?_
  refine mf_getr 4 0 dX4_giveBack_2 fl_X4_10 (by decide) (by decide) rfl (im_o (w_im hq hb)) (im_r0 (w_im hq hb)) hb.ne.1 ?_
  refine mf_cVv (rest := []) [.ref (b + 1)] (aX5_copyFrom (d + 0) q hq 4 (b + 1) pl4 (plI hb)) mY_X5_copyFrom dX4_giveBack_5 ml_X4_36 (pl_o (w_pl hq pl4)) rfl rfl (Nat.le_of_ble_eq_true rfl) rfl (fun _ => ?_)
  refine mf_aload_n 2 dX4_giveBack_8 rfl ?_
  refine mf_aload_n 0 dX4_giveBack_9 rfl ?_
  refine mf_getr 4 1 dX4_giveBack_10 fl_X4_32 (by decide) (by decide) rfl (im_o (w_im hq hb)) (im_r1 (w_im hq hb)) hb.ne.1 ?_
  refine mf_cVv (rest := []) [.ref (b + 27)] (aX8_copyFrom (d + 0) q hq 47 (b + 27) st47 (stI hb)) mY_X8_copyFrom dX4_giveBack_13 ml_X4_39 (sa_o (w_st hq st47)) rfl rfl (Nat.le_of_ble_eq_true rfl) rfl (fun _ => ?_)
  refine mf_aload_n 3 dX4_giveBack_16 rfl ?_
  refine mf_aload_n 0 dX4_giveBack_17 rfl ?_
  refine mf_getr 4 2 dX4_giveBack_18 fl_X4_19 (by decide) (by decide) rfl (im_o (w_im hq hb)) (im_r2 (w_im hq hb)) hb.ne.1 ?_
  refine mf_cVv (rest := []) [.ref (b + 22)] (aX7_copyFrom (d + 0) q hq 130 (b + 22) se130 (seI hb)) mY_X7_copyFrom dX4_giveBack_21 ml_X4_42 (se_o (w_se hq se130)) rfl rfl (Nat.le_of_ble_eq_true rfl) rfl (fun _ => ?_)
  exact mf_return dX4_giveBack_24 rfl ⟨rfl, rfl⟩
set_option maxRecDepth 100000 in
set_option maxHeartbeats 4000000 in
theorem aX6_hasRoom (d : Nat) (q : m_S) (hq : isW q) (a1 : Int32) (a2 : Int32) : AC rI yX6_hasRoom cX6_hasRoom 4 (some .boolean) (d + 2) [.ref 25, .ref 1, .int a1, .int a2] q (fX6_hasRoom a1 a2) := by
  refine ac_of (by decide +kernel) (Nat.le_of_ble_eq_true rfl) ?_
  unfold fX6_hasRoom
  show MF rI (yX6_hasRoom.cls, cX6_hasRoom, 4, (some .boolean), yX6_hasRoom.name, d + 2, 0, 0) 0 [(0, .ref 25), (1, .ref 1), (2, .int a1), (3, .int a2)] [] q _
  refine mf_aload_n 0 dX6_hasRoom_0 rfl ?_
  refine mf_getr 6 0 dX6_hasRoom_1 fl_X6_12 (by decide) (by decide) rfl (rd_o (w_rd hq)) (rd_r0 (w_rd hq)) (by decide) ?_
  refine mf_getr 5 0 dX6_hasRoom_4 fl_X6_86 (by decide) (by decide) rfl (pl_o (w_pl hq pl26)) (pl_r0 (w_pl hq pl26)) (by decide) ?_
  refine mf_iload_n 2 dX6_hasRoom_7 rfl ?_
  refine mf_iald dX6_hasRoom_8 (pl_a0 (w_pl hq pl26)) (fun v1 => ?_)
  refine mf_iload_n 3 dX6_hasRoom_9 rfl ?_
  refine mf_icmp_lt (tgt := 21) dX6_hasRoom_10 (by decide) ?_ ?_
  · refine mf_iconst (v := 1) dX6_hasRoom_21 rfl ?_
    refine mf_goto (tgt := 26) dX6_hasRoom_22 (by decide) ?_
    exact mf_ireturn dX6_hasRoom_26 rfl rfl ⟨rfl, rfl⟩
  · refine mf_aload_n 1 dX6_hasRoom_13 rfl ?_
    refine mf_iconst (v := 4) dX6_hasRoom_14 rfl ?_
    refine mf_cVi (rest := []) [.int 4] (aX10_wrong (d + 0) q hq 4) mY_X10_wrong dX6_hasRoom_15 ml_X6_82 (tx_o (w_tx hq)) rfl rfl (Nat.le_of_ble_eq_true rfl) rfl (fun v2 => ?_)
    refine mf_if_eq (tgt := 25) dX6_hasRoom_18 (by decide) ?_ ?_
    · refine mf_iconst (v := 0) dX6_hasRoom_25 rfl ?_
      exact mf_ireturn dX6_hasRoom_26 rfl rfl ⟨rfl, rfl⟩
    · refine mf_iconst (v := 1) dX6_hasRoom_21 rfl ?_
      refine mf_goto (tgt := 26) dX6_hasRoom_22 (by decide) ?_
      exact mf_ireturn dX6_hasRoom_26 rfl rfl ⟨rfl, rfl⟩
set_option maxRecDepth 100000 in
set_option maxHeartbeats 4000000 in
theorem aX6_goOn (d : Nat) (q : m_S) (hq : isW q)  : AC rI yX6_goOn cX6_goOn 1 (some .boolean) (d + 4) [.ref 1] q (fX6_goOn ) := by
  refine ac_of (by decide +kernel) (Nat.le_of_ble_eq_true rfl) ?_
  unfold fX6_goOn
  show MF rI (yX6_goOn.cls, cX6_goOn, 1, (some .boolean), yX6_goOn.name, d + 4, 0, 0) 0 [(0, .ref 1)] [] q _
  refine mf_aload_n 0 dX6_goOn_0 rfl ?_
  refine mf_cVv (rest := []) [] (aX10_next (d + 0) q hq) mY_X10_next dX6_goOn_1 ml_X6_35 (tx_o (w_tx hq)) rfl rfl (Nat.le_of_ble_eq_true rfl) rfl (fun _ => ?_)
  refine mf_iconst (v := 1) dX6_goOn_4 rfl ?_
  exact mf_ireturn dX6_goOn_5 rfl rfl ⟨rfl, rfl⟩
